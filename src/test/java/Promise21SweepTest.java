/** Promise 21: sweep. */
public final class Promise21SweepTest {
    private static final int MOST = 1000000000;
    private static final Due DUE = new Due("Promise 21, sweep");

    public static void main(String[] args) {
        DUE.holds("n + 1 RUNS", Promise21SweepTest::runs);
        DUE.holds("n 0: one RUN", Promise21SweepTest::oneRun);
        DUE.holds("n 20: twenty-one RUNS", Promise21SweepTest::mostRuns);
        DUE.holds("FREE k being MOVED to its place in the latest RUN", Promise21SweepTest::fromTheLatestRun);
        DUE.holds("(dx, dy) further each time", Promise21SweepTest::furtherEachTime);
        DUE.holds("dx, dy 0 and below", Promise21SweepTest::noughtAndBelow);
        DUE.holds("then it is as it was: not MOVED", Promise21SweepTest::wasNotMoved);
        DUE.holds("then it is as it was: MOVED", Promise21SweepTest::wasMoved);
        DUE.holds("SWEPT j tells of STATED i in RUN j: that, or NONE if there is none such", Promise21SweepTest::tellsOfStated);
        DUE.holds("Answers how many are 1", Promise21SweepTest::howMany);
        DUE.holds("RUNS that end SPENT are RUNS", Promise21SweepTest::spentRuns);
        DUE.holds("UNKNOWN: the latest RUN has no FREE k", Promise21SweepTest::noSuchFree);
        DUE.holds("UNKNOWN: there was none", Promise21SweepTest::noRun);
        DUE.holds("OUTSIDE: n", Promise21SweepTest::outsideN);
        DUE.holds("OUTSIDE: i below 0", Promise21SweepTest::outsideI);
        DUE.holds("OUTSIDE: a place would be LOST", Promise21SweepTest::lost);
        DUE.holds("OUTSIDE: a place would be LOST, one by one", Promise21SweepTest::lostOneByOne);
        DUE.holds("a place at the bounds is not LOST", Promise21SweepTest::notLost);
        DUE.holds("STATE: no FIGURE (then there was no RUN: UNKNOWN)", Promise21SweepTest::noFigure);
        DUE.holds("SPENT", Promise21SweepTest::spent);
        DUE.holds("What the latest RUN tells is that of the last of these", Promise21SweepTest::latestRun);
        DUE.end();
    }

    private static FigureTexts figure() {
        return Due.run("a=free(1,2);b=free(5,5);draw a;draw b;state x(a)<4;state 1/(x(a)-3);");
    }

    private static void runs() {
        FigureTexts x = figure();
        DUE.is("sweep()", x.sweep(0, 1, -1, 4, 0), 3);
        DUE.is("RUNS", x.count(6), 6);
    }

    private static void oneRun() {
        FigureTexts x = figure();
        DUE.is("sweep()", x.sweep(1, 7, 7, 0, 0), 1);
        DUE.is("RUNS", x.count(6), 2);
        DUE.is("it is where it was", Due.written(x, 1), "(5, 5)");
        DUE.is("swept(0)", x.swept(0), 1);
        DUE.is("swept(1)", x.swept(1), Due.NONE);
    }

    private static void mostRuns() {
        FigureTexts x = figure();
        DUE.is("sweep()", x.sweep(1, 7, -7, 20, 0), 21);
        DUE.is("RUNS", x.count(6), 22);
        DUE.is("the last of them", Due.written(x, 1), "(145, -135)");
        DUE.is("swept(20)", x.swept(20), 1);
        DUE.is("swept(21)", x.swept(21), Due.NONE);
    }

    private static void fromTheLatestRun() {
        FigureTexts x = figure();
        x.sweep(0, 1, -1, 4, 0);
        x.sweep(0, 1, -1, 1, 0);
        DUE.is("behind a sweep", Due.drawn(x), "(6, -3) (5, 5)");
        x.run();
        x.move(0, 4, 4, 1);
        x.sweep(0, 0, 0, 0, 0);
        DUE.is("MOVED behind the latest RUN", Due.drawn(x), "(1, 2) (5, 5)");
        FigureTexts y = Due.read("draw free(0,0);");
        y.move(0, 1, -1, 3);
        y.run();
        y.sweep(0, 1, 2, 3, 0);
        DUE.is("MOVED ahead of it, to fractions", Due.drawn(y), "(10/3, 17/3)");
        FigureTexts z = Due.run("draw free(1/2,-1/3);");
        z.sweep(0, 1, 2, 3, 0);
        DUE.is("at fractions in the text", Due.drawn(z), "(7/2, 17/3)");
    }

    private static void furtherEachTime() {
        FigureTexts x = Due.run("a=free(10,20);draw a;times 8{state 0;}k=0;times 3{state is(a,point(10+3*k,20-2*k));k=k+1;}");
        for (int j = 0; j < 3; j++) {
            x.run();
            x.sweep(0, 3, -2, 2, 8 + j);
            for (int run = 0; run < 3; run++) {
                DUE.is("whether RUN " + run + " has place " + j, x.swept(run), run == j ? 1 : 0);
            }
        }
    }

    private static void noughtAndBelow() {
        FigureTexts x = figure();
        x.sweep(0, 0, 0, 3, 0);
        DUE.is("by (0, 0)", Due.drawn(x), "(1, 2) (5, 5)");
        x.sweep(0, -1, 0, 3, 0);
        DUE.is("by (-1, 0)", Due.drawn(x), "(-2, 2) (5, 5)");
        x.sweep(0, 0, -2, 3, 0);
        DUE.is("by (0, -2)", Due.drawn(x), "(-2, -4) (5, 5)");
    }

    private static void wasNotMoved() {
        FigureTexts x = Due.run("a=free(1,2);b=free(x(a),y(a));draw b;state 1;");
        DUE.is("leans", x.leans(0), 3);
        x.sweep(1, 1, 1, 2, 0);
        DUE.is("in the sweep", Due.drawn(x), "(3, 4)");
        DUE.is("leans in the sweep", x.leans(0), 2);
        x.run();
        DUE.is("behind it", Due.drawn(x), "(1, 2)");
        DUE.is("leans behind it", x.leans(0), 3);
        DUE.is("loose(1)", x.loose(1), 0);
        DUE.is("loose(0)", x.loose(0), 0);
    }

    private static void wasMoved() {
        FigureTexts x = Due.read("a=free(1,2);b=free(x(a),y(a));draw b;state 1;");
        x.move(1, 7, 8, 3);
        x.move(0, 9, 9, 1);
        x.run();
        x.sweep(1, 3, 0, 1, 0);
        DUE.is("in the sweep", Due.drawn(x), "(16/3, 8/3)");
        x.run();
        DUE.is("behind it", Due.drawn(x), "(7/3, 8/3)");
        DUE.is("loose(1)", x.loose(1), 1);
        DUE.is("loose(0)", x.loose(0), 1);
    }

    private static void tellsOfStated() {
        FigureTexts x = figure();
        DUE.is("sweep() of STATED 1", x.sweep(0, 1, 0, 4, 1), 4);
        int[] due = {1, 1, Due.NONE, 1, 1};
        for (int j = 0; j < due.length; j++) {
            DUE.is("swept(" + j + ")", x.swept(j), due[j]);
        }
        FigureTexts y = Due.run("a=free(0,0);times x(a){state 1;}");
        DUE.is("sweep() of STATED 1, which comes late", y.sweep(0, 1, 0, 3, 1), 2);
        int[] late = {Due.NONE, Due.NONE, 1, 1};
        for (int j = 0; j < late.length; j++) {
            DUE.is("swept(" + j + ")", y.swept(j), late[j]);
        }
    }

    private static void howMany() {
        FigureTexts x = figure();
        DUE.is("some", x.sweep(0, 1, 0, 4, 0), 3);
        DUE.is("none", x.sweep(0, 1, 0, 4, 0), 0);
        x.run();
        DUE.is("without such a STATED", x.sweep(0, 1, 1, 2, 2), 0);
        DUE.is("with i the greatest number", x.sweep(0, 1, 1, 2, Integer.MAX_VALUE), 0);
        DUE.is("NONE is not 1", x.sweep(0, 0, 0, 0, 2), 0);
    }

    private static void spentRuns() {
        FigureTexts x = Due.run("a=free(1,2);state 1;times x(a){draw 1/0;}state 1;");
        DUE.is("sweep() of what is STATED ahead", x.sweep(0, 20, 0, 1, 0), 2);
        DUE.is("the last one ended SPENT", x.count(5), 1);
        x.run();
        DUE.is("sweep() of what is not reached", x.sweep(0, 20, 0, 1, 1), 1);
    }

    private static void noSuchFree() {
        FigureTexts x = figure();
        x.sweep(0, 1, 1, 1, 0);
        for (int k : new int[] {-1, 2, 11, 12, Integer.MIN_VALUE, Integer.MAX_VALUE}) {
            DUE.refuses(x, "sweep(" + k + ", ..)", () -> x.sweep(k, 1, 1, 1, 0), Due.UNKNOWN);
        }
        FigureTexts y = Due.run("a=free(0,0);if x(a){b=free(1,1);}");
        DUE.is("FREE 1, which did not come", y.sweep(1, 1, 1, 1, 0), Due.UNKNOWN);
        y.move(0, 1, 0, 1);
        DUE.is("FREE 1, which will come", y.sweep(1, 1, 1, 1, 0), Due.UNKNOWN);
        y.run();
        DUE.is("FREE 1, which came", y.sweep(1, 1, 1, 1, 0), 0);
        FigureTexts z = Due.run("times 13{a=free(1,1);}");
        DUE.is("FREE 11", z.sweep(11, 1, 1, 0, 0), 0);
        DUE.is("FREE 12", z.sweep(12, 1, 1, 0, 0), Due.UNKNOWN);
    }

    private static void noRun() {
        FigureTexts x = Due.read("a=free(1,2);state 1;");
        DUE.refuses(x, "sweep() before a RUN", () -> x.sweep(0, 1, 1, 1, 0), Due.UNKNOWN);
        x.move(0, 1, 1, 1);
        DUE.refuses(x, "sweep() behind move()", () -> x.sweep(0, 1, 1, 1, 0), Due.UNKNOWN);
        x.run();
        x.read();
        DUE.refuses(x, "sweep() behind read()", () -> x.sweep(0, 1, 1, 1, 0), Due.UNKNOWN);
    }

    private static void outsideN() {
        FigureTexts x = figure();
        x.sweep(0, 1, 1, 1, 0);
        for (int n : new int[] {-1, 21, Integer.MIN_VALUE, Integer.MAX_VALUE}) {
            DUE.refuses(x, "sweep(0, 1, 1, " + n + ", 0)", () -> x.sweep(0, 1, 1, n, 0), Due.OUTSIDE);
        }
    }

    private static void outsideI() {
        FigureTexts x = figure();
        for (int i : new int[] {-1, Integer.MIN_VALUE}) {
            DUE.refuses(x, "sweep(0, 1, 1, 1, " + i + ")", () -> x.sweep(0, 1, 1, 1, i), Due.OUTSIDE);
        }
    }

    private static void lost() {
        FigureTexts x = Due.run("a=free(1/3,5);draw a;state 1;");
        int third = 333333334;
        DUE.refuses(x, "x in RUN 1", () -> x.sweep(0, third, 0, 1, 0), Due.OUTSIDE);
        DUE.refuses(x, "x below in RUN 1", () -> x.sweep(0, -third, 0, 1, 0), Due.OUTSIDE);
        DUE.refuses(x, "y in RUN 1", () -> x.sweep(0, 0, MOST - 4, 1, 0), Due.OUTSIDE);
        DUE.refuses(x, "y in the last RUN", () -> x.sweep(0, 0, 50000000, 20, 0), Due.OUTSIDE);
        DUE.refuses(x, "the least number", () -> x.sweep(0, Integer.MIN_VALUE, Integer.MIN_VALUE, 20, 0), Due.OUTSIDE);
        DUE.refuses(x, "the greatest number", () -> x.sweep(0, 0, Integer.MAX_VALUE, 1, 0), Due.OUTSIDE);
        DUE.is("nothing is MOVED", x.loose(0), 0);
    }

    /** j * dy is LOST, though the sum would not be. */
    private static void lostOneByOne() {
        FigureTexts x = Due.read("draw free(0,0);");
        x.move(0, 0, MOST, 1);
        x.run();
        DUE.refuses(x, "j * dy is -2000000000 in the last RUN", () -> x.sweep(0, 0, -100000000, 20, 0), Due.OUTSIDE);
        DUE.refuses(x, "j * dy is -1100000000 in the last RUN", () -> x.sweep(0, 0, -100000000, 11, 0), Due.OUTSIDE);
        DUE.is("j * dy is -1000000000 in the last RUN", x.sweep(0, 0, -100000000, 10, 0), 0);
    }

    private static void notLost() {
        FigureTexts x = Due.run("a=free(1/3,0);draw a;state 1;");
        DUE.is("up to the bound", x.sweep(0, 0, 50000000, 20, 0), 21);
        DUE.is("the last place", Due.drawn(x), "(1/3, 1000000000)");
        DUE.is("no further", x.sweep(0, 0, 1, 1, 0), Due.OUTSIDE);
        DUE.is("where it is", x.sweep(0, 0, Integer.MAX_VALUE, 0, 0), 1);
        DUE.is("down again", x.sweep(0, 333333333, -MOST, 1, 0), 2);
        DUE.is("the last place", Due.drawn(x), "(1000000000/3, 0)");
    }

    private static void noFigure() {
        FigureTexts x = new FigureTexts();
        DUE.refuses(x, "sweep()", () -> x.sweep(0, 1, 1, 1, 0), Due.UNKNOWN);
        DUE.refuses(x, "sweep() with all wrong", () -> x.sweep(-1, 1, 1, -1, -1), Due.UNKNOWN);
    }

    private static void spent() {
        FigureTexts x = Due.run("f=free(0,0);draw f;state 1;");
        for (int i = 0; i < 28; i++) {
            DUE.is("sweep " + i, x.sweep(0, 1, 1, 20, 0), 21);
        }
        DUE.is("RUNS", x.count(6), 589);
        DUE.refuses(x, "12 RUNS", () -> x.sweep(0, 1, 1, 11, 0), Due.SPENT);
        DUE.is("the latest RUN stays", Due.drawn(x), "(560, 560)");
        DUE.is("11 RUNS", x.sweep(0, 1, 1, 10, 0), 11);
        DUE.is("RUNS", x.count(6), 600);
        DUE.refuses(x, "1 RUN", () -> x.sweep(0, 1, 1, 0, 0), Due.SPENT);
        DUE.is("nothing is MOVED", x.loose(0), 0);
    }

    private static void latestRun() {
        FigureTexts x = figure();
        x.sweep(0, 1, -1, 4, 0);
        DUE.is("DRAWN", Due.drawn(x), "(5, -2) (5, 5)");
        DUE.is("STATED", Due.stated(x), "0 1");
        DUE.is("FALLS", x.count(2), 0);
        x.sweep(0, -1, 0, 2, 0);
        DUE.is("DRAWN", Due.drawn(x), "(3, -2) (5, 5)");
        DUE.is("STATED", Due.stated(x), "1 -1");
        DUE.is("FALLS", x.count(2), 1);
    }
}
