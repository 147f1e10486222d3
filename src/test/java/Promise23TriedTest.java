/** Promise 23: tried. */
public final class Promise23TriedTest {
    private static final Due DUE = new Due("Promise 23, tried");

    public static void main(String[] args) {
        DUE.holds("n RUNS (1 .. 20)", Promise23TriedTest::runs);
        DUE.holds("all FREES 0 .. 11 are MOVED, in order, to whole x, then y", Promise23TriedTest::places);
        DUE.holds("h becomes h * 1103515245 + 12345 (wrapping)", Promise23TriedTest::wrapping);
        DUE.holds("the rest of h's bits from 16 up (without sign) by 41, less 20", Promise23TriedTest::withoutSign);
        DUE.holds("h goes on from RUN to RUN", Promise23TriedTest::goesOn);
        DUE.holds("Behind them all are as they were", Promise23TriedTest::asTheyWere);
        DUE.holds("but what the latest RUN tells is that of the last of these", Promise23TriedTest::latestRun);
        DUE.holds("Answers in how many STATED i was 1", Promise23TriedTest::howMany);
        DUE.holds("if one was 0: NONE less the first such RUN (from 0)", Promise23TriedTest::firstWrong);
        DUE.holds("STATED NONE, or none such, is neither 1 nor 0", Promise23TriedTest::neither);
        DUE.holds("tried() needs no RUN ahead of it", Promise23TriedTest::withoutRun);
        DUE.holds("OUTSIDE: n", Promise23TriedTest::outsideN);
        DUE.holds("OUTSIDE: i below 0", Promise23TriedTest::outsideI);
        DUE.holds("STATE: no FIGURE", Promise23TriedTest::noFigure);
        DUE.holds("SPENT", Promise23TriedTest::spent);
        DUE.end();
    }

    private static int next(int h) {
        return h * 1103515245 + 12345;
    }

    private static int whole(int h) {
        return (h >>> 16) % 41 - 20;
    }

    private static int behind(int h, int times) {
        int last = h;
        for (int i = 0; i < times; i++) {
            last = next(last);
        }
        return last;
    }

    private static void runs() {
        FigureTexts x = Due.read("state 1;");
        DUE.is("1 RUN", x.tried(1, 1, 0), 1);
        DUE.is("RUNS", x.count(6), 1);
        DUE.is("20 RUNS", x.tried(1, 20, 0), 20);
        DUE.is("RUNS", x.count(6), 21);
    }

    private static void arePlaces(int seed, int run) {
        FigureTexts x = Due.read("times 12{f=free(100,100);draw f;}");
        x.tried(seed, run + 1, 0);
        int h = behind(seed, 24 * run);
        for (int k = 0; k < 12; k++) {
            h = next(h);
            DUE.is("x of FREE " + k + " by " + seed, x.number(k, 0, 0), whole(h));
            h = next(h);
            DUE.is("y of FREE " + k + " by " + seed, x.number(k, 1, 0), whole(h));
            DUE.is("the bottoms", x.number(k, 0, 1) + x.number(k, 1, 1), 2);
            DUE.is("it is MOVED", x.leans(k), 1 << k);
        }
    }

    private static void places() {
        arePlaces(1, 0);
        arePlaces(5, 0);
        FigureTexts x = Due.read("draw free(1,2);");
        x.tried(0, 1, 0);
        DUE.is("seed 0: h is 12345, then -740551042", Due.drawn(x), "(-20, 14)");
    }

    private static void wrapping() {
        arePlaces(Integer.MAX_VALUE, 0);
        arePlaces(Integer.MIN_VALUE, 0);
        arePlaces(123456789, 1);
        FigureTexts x = Due.read("draw free(1,2);");
        x.tried(2, 1, 0);
        long h = (2L * 1103515245L + 12345L) & 0xFFFFFFFFL;
        long g = (h * 1103515245L + 12345L) & 0xFFFFFFFFL;
        DUE.is("reckoned in 64 bits", Due.drawn(x), "(" + ((h >> 16) % 41 - 20) + ", " + ((g >> 16) % 41 - 20) + ")");
    }

    private static void withoutSign() {
        arePlaces(-1, 0);
        arePlaces(-987654321, 0);
        for (int seed = 0; seed < 40; seed++) {
            FigureTexts x = Due.read("f=free(1,2);draw f;state -21<x(f);state x(f)<21;state -21<y(f);state y(f)<21;");
            x.tried(seed * 715827883, 1, 0);
            DUE.is("within -20 .. 20", Due.stated(x), "1 1 1 1");
        }
    }

    private static void goesOn() {
        arePlaces(7, 1);
        arePlaces(7, 2);
        arePlaces(-7, 19);
    }

    private static void asTheyWere() {
        FigureTexts x = Due.run("a=free(1,2);b=free(x(a),4);draw a;draw b;state 1;");
        x.move(1, 5, 6, 7);
        x.move(9, 1, 1, 1);
        x.tried(3, 2, 0);
        x.run();
        DUE.is("DRAWN", Due.drawn(x), "(1, 2) (5/7, 6/7)");
        for (int k = 0; k < 12; k++) {
            DUE.is("loose(" + k + ")", x.loose(k), k == 1 || k == 9 ? 1 : 0);
        }
    }

    private static void latestRun() {
        FigureTexts x = Due.run("a=free(100,100);draw a;state x(a)<50;");
        DUE.is("STATED", Due.stated(x), "0");
        x.tried(3, 2, 0);
        int h = next(behind(3, 24));
        DUE.is("DRAWN", Due.drawn(x), "(" + whole(h) + ", " + whole(next(h)) + ")");
        DUE.is("STATED", Due.stated(x), "1");
        DUE.is("FREES", x.count(3), 1);
    }

    private static void howMany() {
        FigureTexts x = Due.run("a=free(1,2);b=free(3,4);state is(mid(a,b),mid(b,a));state x(a)<100;state 1;");
        for (int i = 0; i < 3; i++) {
            DUE.is("always 1", x.tried(5, 20, i), 20);
            DUE.is("always 1 in one", x.tried(5, 1, i), 1);
        }
    }

    /** In which RUN x of FREE 0 is 0 first. */
    private static int firstNought(int seed, int n) {
        for (int j = 0; j < n; j++) {
            if (whole(next(behind(seed, 24 * j))) == 0) {
                return j;
            }
        }
        return Due.NONE;
    }

    private static void firstWrong() {
        FigureTexts x = Due.read("state 0;");
        DUE.is("always 0", x.tried(5, 20, 0), -1);
        DUE.is("always 0 in one", x.tried(5, 1, 0), -1);
        boolean[] seen = new boolean[20];
        for (int seed = 0; seed < 4000; seed++) {
            int wrong = firstNought(seed, 20);
            if (wrong < 1 || seen[wrong]) {
                continue;
            }
            seen[wrong] = true;
            FigureTexts y = Due.read("a=free(1,2);state x(a);");
            DUE.is("first 0 in RUN " + wrong, y.tried(seed, 20, 0), -1 - wrong);
            DUE.is("RUNS behind it are done, too", y.count(6), 20);
            DUE.is("it is the last of these", y.tried(seed, wrong + 1, 0), -1 - wrong);
            DUE.is("RUNS ahead of it alone", y.tried(seed, wrong, 0), wrong);
        }
        DUE.is("RUN 19 was among them", seen[19], true);
    }

    private static void neither() {
        FigureTexts x = Due.read("a=free(1,2);state 1/0;if x(a){state 1;}");
        DUE.is("always NONE", x.tried(5, 20, 0), 0);
        DUE.is("none such", x.tried(5, 20, 2), 0);
        DUE.is("none such, the greatest", x.tried(5, 20, Integer.MAX_VALUE), 0);
        for (int seed = 0; seed < 400; seed++) {
            if (firstNought(seed, 3) == 1 && whole(next(behind(seed, 48))) != 0) {
                FigureTexts y = Due.read("a=free(1,2);state 1/0;if x(a){state 1;}");
                DUE.is("none such in one of three", y.tried(seed, 3, 1), 2);
            }
        }
    }

    private static void withoutRun() {
        FigureTexts x = Due.read("draw free(1,2);state 1;");
        DUE.is("tried()", x.tried(3, 2, 0), 2);
        DUE.is("it is a RUN", x.count(0), 1);
        DUE.is("with a FREE to sweep", x.sweep(0, 1, 1, 1, 0), 2);
        DUE.is("of a FIGURE without FREES", Due.read("state 1;").tried(3, 2, 0), 2);
        DUE.is("of an empty FIGURE", Due.read("").tried(3, 2, 0), 0);
    }

    private static void outsideN() {
        FigureTexts x = Due.run("draw free(1,2);state 1;");
        for (int n : new int[] {0, -1, 21, Integer.MIN_VALUE, Integer.MAX_VALUE}) {
            DUE.refuses(x, "tried(1, " + n + ", 0)", () -> x.tried(1, n, 0), Due.OUTSIDE);
        }
        DUE.is("nothing is MOVED", x.loose(0), 0);
    }

    private static void outsideI() {
        FigureTexts x = Due.run("draw free(1,2);state 1;");
        for (int i : new int[] {-1, Integer.MIN_VALUE}) {
            DUE.refuses(x, "tried(1, 1, " + i + ")", () -> x.tried(1, 1, i), Due.OUTSIDE);
        }
    }

    private static void noFigure() {
        FigureTexts x = new FigureTexts();
        DUE.refuses(x, "tried()", () -> x.tried(1, 1, 0), Due.STATE);
        DUE.is("no RUN", x.count(6), 0);
    }

    private static void spent() {
        FigureTexts x = Due.run("draw free(1,1);state 1;");
        for (int i = 0; i < 29; i++) {
            x.tried(i, 20, 0);
        }
        DUE.is("RUNS", x.count(6), 581);
        DUE.refuses(x, "20 RUNS more", () -> x.tried(1, 20, 0), Due.SPENT);
        DUE.is("19 RUNS more", x.tried(1, 19, 0), 19);
        DUE.is("RUNS", x.count(6), 600);
        DUE.refuses(x, "1 RUN more", () -> x.tried(1, 1, 0), Due.SPENT);
        DUE.is("nothing is MOVED", x.loose(0), 0);
    }
}
