/** Promise 19: out. */
public final class Promise19OutTest {
    private static final Due DUE = new Due("Promise 19, out");

    public static void main(String[] args) {
        DUE.holds("Byte i of THE OUT", Promise19OutTest::bytes);
        DUE.holds("IndexOutOfBounds: i", Promise19OutTest::outOfBounds);
        DUE.holds("IndexOutOfBounds: an empty OUT", Promise19OutTest::empty);
        DUE.holds("IndexOutOfBounds: what a longer OUT had there is gone", Promise19OutTest::shorter);
        DUE.end();
    }

    private static void bytes() {
        FigureTexts x = Due.run("draw point(1,2);");
        x.write(0);
        String due = "(1, 2)";
        for (int i = 0; i < due.length(); i++) {
            DUE.is("out(" + i + ")", x.out(i), due.charAt(i));
        }
        x.print();
        DUE.is("out(0) behind print()", x.out(0), 'd');
        DUE.is("out(17), the line's end", x.out(17), 10);
    }

    private static void outOfBounds() {
        FigureTexts x = Due.run("draw point(1,2);");
        x.write(0);
        DUE.is("out(5) of 6", x.out(5), ')');
        for (int i : new int[] {-1, 6, 3000, Integer.MIN_VALUE, Integer.MAX_VALUE}) {
            String before = Due.seen(x);
            DUE.throwsOutOfBounds("out(" + i + ") of 6", () -> x.out(i));
            DUE.is("what is seen behind it", Due.seen(x), before);
        }
    }

    private static void empty() {
        DUE.throwsOutOfBounds("out(0) of a new object", () -> new FigureTexts().out(0));
        FigureTexts x = Due.read("");
        x.print();
        DUE.throwsOutOfBounds("out(0) behind the print of an empty FIGURE", () -> x.out(0));
    }

    private static void shorter() {
        FigureTexts x = Due.run("draw point(1,2);draw 7;");
        x.print();
        DUE.is("out(20)", x.out(20), 'a');
        x.write(1);
        DUE.throwsOutOfBounds("out(1)", () -> x.out(1));
        DUE.throwsOutOfBounds("out(20)", () -> x.out(20));
    }
}
