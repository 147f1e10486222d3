/** Promise 9: run. What a RUN does is asked in Section4RunTest. */
public final class Promise09RunTest {
    private static final Due DUE = new Due("Promise 9, run");

    public static void main(String[] args) {
        DUE.holds("how many THINGS are DRAWN", Promise09RunTest::howMany);
        DUE.holds("NONE: it ended SPENT, by STEPS", Promise09RunTest::spentBySteps);
        DUE.holds("NONE: it ended SPENT, by FALLS", Promise09RunTest::spentByFalls);
        DUE.holds("a RUN in place of the latest one", Promise09RunTest::anew);
        DUE.holds("STATE: no FIGURE", Promise09RunTest::noFigure);
        DUE.holds("SPENT", Promise09RunTest::spent);
        DUE.holds("a RUN that ended SPENT leaves nothing behind", Promise09RunTest::behindSpent);
        DUE.end();
    }

    private static void howMany() {
        DUE.is("of an empty FIGURE", Due.read("").run(), 0);
        DUE.is("without a draw", Due.read("a=1;state a;").run(), 0);
        DUE.is("one", Due.read("draw 1;").run(), 1);
        DUE.is("by a FALL none", Due.read("draw 1;draw 1/0;draw 2;").run(), 2);
        DUE.is("forty", Due.read("times 40{draw 1;}").run(), 40);
        DUE.is("not forty-one", Due.read("times 41{draw 1;}").run(), 40);
    }

    private static void spentBySteps() {
        DUE.is("400 STEPS", Due.read("draw 1;times 396{}").run(), 1);
        DUE.is("401 STEPS", Due.read("draw 1;times 397{}").run(), Due.NONE);
    }

    private static void spentByFalls() {
        DUE.is("11 FALLS", Due.read("draw 1;times 11{draw 1/0;}").run(), 1);
        DUE.is("12 FALLS", Due.read("draw 1;times 12{draw 1/0;}").run(), Due.NONE);
    }

    private static void anew() {
        FigureTexts x = Due.run("f=free(1,2);draw f;if x(f)-1{draw 2;state 1;}else{draw 1/0;}");
        DUE.is("DRAWN", Due.drawn(x), "(1, 2)");
        DUE.is("FALLS", x.count(2), 1);
        x.move(0, 2, 2, 1);
        DUE.is("run()", x.run(), 2);
        DUE.is("DRAWN", Due.drawn(x), "(2, 2) 2");
        DUE.is("STATED", Due.stated(x), "1");
        DUE.is("FALLS", x.count(2), 0);
        DUE.is("FREES", x.count(3), 1);
        x.loose(0);
        DUE.is("run()", x.run(), 1);
        DUE.is("STATED", x.count(1), 0);
        DUE.is("FALLS", x.count(2), 1);
        DUE.throwsOutOfBounds("kind(1)", () -> x.kind(1));
    }

    private static void noFigure() {
        FigureTexts x = new FigureTexts();
        DUE.refuses(x, "run()", x::run, Due.STATE);
        DUE.is("it is not counted", x.count(6), 0);
    }

    private static void spent() {
        FigureTexts x = Due.run("draw free(1,1);state 0;");
        for (int i = 0; i < 29; i++) {
            x.tried(i, 20, 0);
        }
        x.tried(1, 18, 0);
        DUE.is("RUNS", x.count(6), 599);
        DUE.is("the 600th", x.run(), 1);
        DUE.refuses(x, "the 601st", x::run, Due.SPENT);
    }

    private static void behindSpent() {
        String text = "macro g(p){times p{}give p;}macro h(){give 1+g(1);}macro f(p){n=4;give 1+(2+(n+h()*g(p)));}"
            + "a=free(1,0);b=7;w=row(2);draw 1+f(x(a))+b;draw none(w[0]);w[0]=1;state is(b,7);";
        FigureTexts x = Due.read(text);
        DUE.is("the first", x.run(), 2);
        DUE.is("DRAWN", Due.drawn(x), "17 1");
        for (int i = 0; i < 60; i++) {
            x.move(0, 999, 0, 1);
            DUE.is("SPENT", x.run(), Due.NONE);
            DUE.is("nothing is DRAWN", x.count(0), 0);
        }
        x.loose(0);
        DUE.is("behind them", x.run(), 2);
        DUE.is("it is not SPENT", x.count(5), 0);
        DUE.is("DRAWN", Due.drawn(x), "17 1");
        DUE.is("STATED", Due.stated(x), "1");
        DUE.is("FALLS", x.count(2), 0);
    }
}
