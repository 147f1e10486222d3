/** Promise 15: fall. Which FALLS there are is asked in the tests of sections 3 and 4. */
public final class Promise15FallTest {
    private static final Due DUE = new Due("Promise 15, fall");

    public static void main(String[] args) {
        DUE.holds("the FAILURE (what = 0), the byte (1)", Promise15FallTest::failureAndByte);
        DUE.holds("each FAILURE, 1 NOTHING .. 9 ROOM", Promise15FallTest::allFailures);
        DUE.holds("OUTSIDE: what", Promise15FallTest::outside);
        DUE.holds("NONE: there is none such", Promise15FallTest::noneSuch);
        DUE.holds("NONE: there is none such, 12 of 12", Promise15FallTest::full);
        DUE.holds("bytes up to 2999", Promise15FallTest::lastByte);
        DUE.end();
    }

    private static void failureAndByte() {
        FigureTexts x = Due.run("draw 1/0;state point(1,1);");
        DUE.is("fall(0, 0)", x.fall(0, 0), Due.ZERO);
        DUE.is("fall(0, 1)", x.fall(0, 1), 6);
        DUE.is("fall(1, 0)", x.fall(1, 0), Due.CAST);
        DUE.is("fall(1, 1)", x.fall(1, 1), 9);
        DUE.is("fall(0, 1) at the first byte", Due.run("state row(1);").fall(0, 1), 0);
    }

    private static void allFailures() {
        String text = "w=numbers(1);a=w[0];draw a;draw x(1);draw w[1];times -1{}w[0]=w;draw 1/0;draw 999999999*2;"
            + "draw round(point(0,0),-1);draw row(21);";
        FigureTexts x = Due.run(text);
        int[] bytes = {text.indexOf("draw a"), text.indexOf("x(1)"), text.indexOf("w[1]"), text.indexOf("times"), text.indexOf("w[0]=w"),
            text.indexOf("/0"), text.indexOf("*2"), text.indexOf("round"), text.indexOf("row(21)")};
        DUE.is("FALLS", x.count(2), 9);
        for (int i = 0; i < 9; i++) {
            DUE.is("fall(" + i + ", 0)", x.fall(i, 0), i + 1);
            DUE.is("fall(" + i + ", 1)", x.fall(i, 1), bytes[i]);
        }
    }

    private static void outside() {
        FigureTexts x = Due.run("draw 1/0;");
        for (int what : new int[] {-1, 2, Integer.MIN_VALUE, Integer.MAX_VALUE}) {
            DUE.refuses(x, "fall(0, " + what + ")", () -> x.fall(0, what), Due.OUTSIDE);
            DUE.refuses(x, "fall(5, " + what + ")", () -> x.fall(5, what), Due.OUTSIDE);
        }
        DUE.is("fall(0, 2) of a new object", new FigureTexts().fall(0, 2), Due.OUTSIDE);
    }

    private static void noneSuch() {
        FigureTexts x = Due.run("draw 1/0;");
        for (int i : new int[] {-1, 1, 12, Integer.MIN_VALUE, Integer.MAX_VALUE}) {
            DUE.is("fall(" + i + ", 0)", x.fall(i, 0), Due.NONE);
            DUE.is("fall(" + i + ", 1)", x.fall(i, 1), Due.NONE);
        }
        DUE.is("fall(0, 0) before a RUN", Due.read("draw 1/0;").fall(0, 0), Due.NONE);
        DUE.is("fall(0, 0) without FALLS", Due.run("draw 1;").fall(0, 0), Due.NONE);
        FigureTexts y = Due.run("a=free(0,0);draw 1/x(a);");
        DUE.is("fall(0, 0)", y.fall(0, 0), Due.ZERO);
        y.move(0, 1, 1, 1);
        y.run();
        DUE.is("fall(0, 0) of the latest RUN", y.fall(0, 0), Due.NONE);
    }

    private static void full() {
        FigureTexts x = Due.run("times 15{draw 1/0;}");
        DUE.is("fall(11, 0)", x.fall(11, 0), Due.ZERO);
        DUE.is("fall(11, 1)", x.fall(11, 1), 15);
        DUE.is("fall(12, 0)", x.fall(12, 0), Due.NONE);
        DUE.is("fall(12, 1)", x.fall(12, 1), Due.NONE);
    }

    private static void lastByte() {
        FigureTexts x = Due.run(Due.times(2991, " ") + "draw 1/0;");
        DUE.is("fall(0, 1)", x.fall(0, 1), 2997);
    }
}
