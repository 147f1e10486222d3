/** Promise 11: kind. */
public final class Promise11KindTest {
    private static final Due DUE = new Due("Promise 11, kind");

    public static void main(String[] args) {
        DUE.holds("The KIND of DRAWN THING i: 0 NUMBER .. 6 ROW", Promise11KindTest::kinds);
        DUE.holds("a FREE, MOVED or not, is one; an end, a mid of FREES are POINTS", Promise11KindTest::freesAndPoints);
        DUE.holds("of the latest RUN", Promise11KindTest::latest);
        DUE.holds("IndexOutOfBounds: i", Promise11KindTest::outOfBounds);
        DUE.end();
    }

    private static void kinds() {
        FigureTexts x = Due.run("draw 5;draw point(1,2);draw free(1,2);draw line(point(0,0),point(1,2));"
            + "draw seg(point(0,0),point(1,2));draw round(point(0,0),1);draw row(0);draw points(1);draw lines(1);draw numbers(1);draw 1=1;");
        int[] due = {0, 1, 2, 3, 4, 5, 6, 6, 6, 6, 0};
        for (int i = 0; i < due.length; i++) {
            DUE.is("kind(" + i + ")", x.kind(i), due[i]);
        }
    }

    private static void freesAndPoints() {
        FigureTexts x = Due.read("a=free(1,2);b=free(3,4);s=seg(a,b);draw a;draw end(s,0);draw mid(a,a);draw centre(circle(a,b));draw half(s);");
        x.move(0, 5, 5, 1);
        x.run();
        int[] due = {2, 1, 1, 1, 3};
        for (int i = 0; i < due.length; i++) {
            DUE.is("kind(" + i + ")", x.kind(i), due[i]);
        }
    }

    private static void latest() {
        FigureTexts x = Due.run("a=free(1,2);if x(a)-1{draw 7;}else{draw a;draw a;}");
        DUE.is("kind(0)", x.kind(0), 2);
        x.move(0, 3, 3, 1);
        DUE.is("kind(0) before a RUN", x.kind(0), 2);
        x.run();
        DUE.is("kind(0) behind it", x.kind(0), 0);
        DUE.throwsOutOfBounds("kind(1) behind it", () -> x.kind(1));
    }

    private static void outOfBounds() {
        FigureTexts x = Due.run("draw 1;draw 2;");
        DUE.is("kind(1)", x.kind(1), 0);
        for (int i : new int[] {-1, 2, 40, Integer.MIN_VALUE, Integer.MAX_VALUE}) {
            String before = Due.seen(x);
            DUE.throwsOutOfBounds("kind(" + i + ")", () -> x.kind(i));
            DUE.is("what is seen behind it", Due.seen(x), before);
        }
        FigureTexts full = Due.run("times 40{draw 1;}");
        DUE.is("kind(39) of 40", full.kind(39), 0);
        DUE.throwsOutOfBounds("kind(40) of 40", () -> full.kind(40));
        FigureTexts none = Due.read("draw 1;");
        DUE.throwsOutOfBounds("kind(0) before a RUN", () -> none.kind(0));
    }
}
