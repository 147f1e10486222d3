/** Promise 14: stated. */
public final class Promise14StatedTest {
    private static final Due DUE = new Due("Promise 14, stated");

    public static void main(String[] args) {
        DUE.holds("STATED i: 1, 0, NONE", Promise14StatedTest::statedI);
        DUE.holds("of the latest RUN", Promise14StatedTest::latest);
        DUE.holds("IndexOutOfBounds: i", Promise14StatedTest::outOfBounds);
        DUE.holds("IndexOutOfBounds: 40 of 40", Promise14StatedTest::full);
        DUE.end();
    }

    private static void statedI() {
        FigureTexts x = Due.run("state 1;state 0;state 1/0;state -7/2;state row(1);");
        int[] due = {1, 0, Due.NONE, 1, Due.NONE};
        for (int i = 0; i < due.length; i++) {
            DUE.is("stated(" + i + ")", x.stated(i), due[i]);
        }
    }

    private static void latest() {
        FigureTexts x = Due.run("a=free(1,2);state x(a)<3;times x(a){state 1;}");
        DUE.is("stated(0)", x.stated(0), 1);
        x.move(0, 0, 1, 1);
        x.run();
        DUE.throwsOutOfBounds("stated(1)", () -> x.stated(1));
        x.move(0, 3, 1, 1);
        x.run();
        DUE.is("stated(0)", x.stated(0), 0);
        DUE.is("stated(3)", x.stated(3), 1);
    }

    private static void outOfBounds() {
        FigureTexts x = Due.run("state 1;draw 1;draw 2;draw 3;");
        for (int i : new int[] {-1, 1, 2, 40, Integer.MIN_VALUE, Integer.MAX_VALUE}) {
            String before = Due.seen(x);
            DUE.throwsOutOfBounds("stated(" + i + ")", () -> x.stated(i));
            DUE.is("what is seen behind it", Due.seen(x), before);
        }
        DUE.throwsOutOfBounds("stated(0) before a RUN", () -> Due.read("state 1;").stated(0));
        DUE.throwsOutOfBounds("stated(0) without one", () -> Due.run("draw 1;").stated(0));
    }

    private static void full() {
        FigureTexts x = Due.run("times 39{state 0;}state 1;state 1;");
        DUE.is("stated(38)", x.stated(38), 0);
        DUE.is("stated(39)", x.stated(39), 1);
        DUE.throwsOutOfBounds("stated(40)", () -> x.stated(40));
    }
}
