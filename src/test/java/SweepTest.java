/** Promises 21 (sweep), 22 (swept), 23 (tried). */
public final class SweepTest {
    private static final int NONE = FigureTexts.NONE, UNKNOWN = FigureTexts.UNKNOWN, OUTSIDE = FigureTexts.OUTSIDE, STATE = FigureTexts.STATE;
    private static final Due DUE = new Due("SweepTest");

    public static void main(String[] args) {
        sweep();
        sweepIsAsItWas();
        sweepRefused();
        sweepLost();
        swept();
        tried();
        triedPlaces();
        triedIsAsItWas();
        triedRefused();
        DUE.end();
    }

    private static void sweep() {
        FigureTexts x = Due.run("a=free(1,2);b=free(5,5);draw a;draw b;state x(a)<4;state 1/(x(a)-3);");
        DUE.is("sweep of STATED 0", x.sweep(0, 1, -1, 4, 0), 3);
        int[] first = {1, 1, 1, 0, 0};
        for (int j = 0; j < first.length; j++) {
            DUE.is("swept(" + j + ")", x.swept(j), first[j]);
        }
        DUE.is("the latest RUN is the last", Due.drawn(x), "(5, -2) (5, 5)");
        DUE.is("RUNS", x.count(6), 6);
        DUE.is("sweep of STATED 1 from there", x.sweep(0, -1, 0, 4, 1), 4);
        int[] second = {1, 1, NONE, 1, 1};
        for (int j = 0; j < second.length; j++) {
            DUE.is("swept(" + j + ")", x.swept(j), second[j]);
        }
        DUE.is("the latest RUN is the last", Due.drawn(x), "(1, -2) (5, 5)");
        DUE.is("sweep of no STATED", x.sweep(0, 1, 1, 2, 2), 0);
        for (int j = 0; j < 3; j++) {
            DUE.is("swept(" + j + ") of no STATED", x.swept(j), NONE);
        }
        DUE.is("sweep of no STATED", x.sweep(0, 1, 1, 2, Integer.MAX_VALUE), 0);
        DUE.is("sweep of one RUN", x.sweep(1, 7, 7, 0, 0), 1);
        DUE.is("it is where it was", x.number(1, 0, 0), 5);
        DUE.is("sweep of 21 RUNS", x.sweep(1, 7, 7, 20, 0), 21);
        DUE.is("the last of them", Due.written(x, 1), "(145, 145)");
        FigureTexts y = Due.run("a=free(1/2,-1/3);draw a;state 1;");
        y.sweep(0, 1, 2, 3, 0);
        DUE.is("places in fractions", Due.drawn(y), "(7/2, 17/3)");
    }

    /** MOVED or not, a FREE is as it was; in the sweep it hangs on itself alone. */
    private static void sweepIsAsItWas() {
        FigureTexts x = Due.run("a=free(1,2);b=free(x(a),y(a));draw b;state 1;");
        DUE.is("leans", x.leans(0), 3);
        x.sweep(1, 1, 1, 2, 0);
        DUE.is("in the sweep", Due.drawn(x), "(3, 4)");
        DUE.is("leans in the sweep", x.leans(0), 2);
        DUE.is("it is not MOVED", x.loose(1), 0);
        x.run();
        DUE.is("it is where it was", Due.drawn(x), "(1, 2)");
        x.move(1, 7, 8, 3);
        x.move(0, 9, 9, 1);
        x.run();
        x.sweep(1, 3, 0, 1, 0);
        DUE.is("in the sweep", Due.drawn(x), "(16/3, 8/3)");
        x.run();
        DUE.is("it is where it was MOVED to", Due.drawn(x), "(7/3, 8/3)");
        DUE.is("it is MOVED", x.loose(1), 1);
        DUE.is("the other one, too", x.loose(0), 1);
        x.run();
        x.move(1, 4, 4, 1);
        x.sweep(1, 0, 0, 0, 0);
        DUE.is("the place is that in the latest RUN", Due.drawn(x), "(1, 2)");
        x.run();
        DUE.is("then that of the move", Due.drawn(x), "(4, 4)");
    }

    private static void sweepRefused() {
        FigureTexts none = new FigureTexts();
        DUE.is("sweep without a figure", none.sweep(0, 1, 1, 1, 0), UNKNOWN);
        FigureTexts x = Due.read("a=free(1,2);draw a;state 1;");
        DUE.is("sweep before a RUN", x.sweep(0, 1, 1, 1, 0), UNKNOWN);
        x.run();
        DUE.is("a good one", x.sweep(0, 1, 1, 1, 0), 2);
        DUE.is("FREE -1", x.sweep(-1, 1, 1, 1, 0), UNKNOWN);
        DUE.is("FREE 1", x.sweep(1, 1, 1, 1, 0), UNKNOWN);
        DUE.is("FREE 12", x.sweep(12, 1, 1, 1, 0), UNKNOWN);
        DUE.is("FREE 1, -1 RUNS", x.sweep(1, 1, 1, -1, -1), UNKNOWN);
        DUE.is("-1", x.sweep(0, 1, 1, -1, 0), OUTSIDE);
        DUE.is("21", x.sweep(0, 1, 1, 21, 0), OUTSIDE);
        DUE.is("STATED -1", x.sweep(0, 1, 1, 1, -1), OUTSIDE);
        DUE.is("SWEPT stays", x.swept(1), 1);
        DUE.is("SWEPT has no more", x.swept(2), NONE);
        DUE.is("RUNS", x.count(6), 3);
        DUE.is("the latest RUN stays", Due.drawn(x), "(2, 3)");
    }

    private static void sweepLost() {
        FigureTexts x = Due.run("a=free(1/3,0);draw a;state 1;");
        DUE.is("a place at the bounds", x.sweep(0, 0, 50000000, 20, 0), 21);
        DUE.is("the last place", Due.drawn(x), "(1/3, 1000000000)");
        DUE.is("a LOST y", x.sweep(0, 0, 1, 1, 0), OUTSIDE);
        DUE.is("not in 1 RUN", x.sweep(0, 0, 1, 0, 0), 1);
        DUE.is("a LOST x", x.sweep(0, 333333334, 0, 1, 0), OUTSIDE);
        DUE.is("a LOST x in the last RUN", x.sweep(0, 200000000, 0, 2, 0), OUTSIDE);
        DUE.is("not in the one ahead", x.sweep(0, 200000000, 0, 1, 0), 2);
        DUE.is("the least number", x.sweep(0, Integer.MIN_VALUE, Integer.MIN_VALUE, 20, 0), OUTSIDE);
        DUE.is("j * dy is LOST, as reckoned one by one", x.sweep(0, 0, -100000000, 20, 0), OUTSIDE);
        DUE.is("back again", x.sweep(0, 0, -50000000, 20, 0), 21);
        DUE.is("the last place", Due.drawn(x), "(600000001/3, 0)");
    }

    private static void swept() {
        FigureTexts x = Due.run("a=free(1,2);state x(a)-1;");
        DUE.is("swept(0) without a sweep", x.swept(0), NONE);
        DUE.is("sweep", x.sweep(0, 1, 0, 2, 0), 2);
        DUE.is("swept(0)", x.swept(0), 0);
        DUE.is("swept(1)", x.swept(1), 1);
        DUE.is("swept(2)", x.swept(2), 1);
        DUE.is("swept(3)", x.swept(3), NONE);
        DUE.is("swept(-1)", x.swept(-1), NONE);
        DUE.is("swept(greatest)", x.swept(Integer.MAX_VALUE), NONE);
        x.run();
        x.tried(1, 3, 0);
        DUE.is("swept(0) stays by other RUNS", x.swept(0), 0);
        x.run();
        DUE.is("a shorter sweep", x.sweep(0, 1, 0, 0, 0), 0);
        DUE.is("swept(0)", x.swept(0), 0);
        DUE.is("swept(1)", x.swept(1), NONE);
        FigureTexts y = Due.run("a=free(1,2);state 1;times x(a){draw 1/0;}");
        DUE.is("RUNS that end SPENT count", y.sweep(0, 20, 0, 1, 0), 2);
        DUE.is("the last one did", y.count(5), 1);
    }

    private static int next(int h) {
        return h * 1103515245 + 12345;
    }

    private static int whole(int h) {
        return (h >>> 16) % 41 - 20;
    }

    private static void tried() {
        FigureTexts x = Due.run("a=free(1,2);b=free(3,4);state is(mid(a,b),mid(b,a));state 0;state 1/0;state x(a)<100;");
        DUE.is("always 1", x.tried(5, 20, 0), 20);
        DUE.is("always 0", x.tried(5, 20, 1), -1);
        DUE.is("always NONE", x.tried(5, 20, 2), 0);
        DUE.is("no such STATED", x.tried(5, 20, 4), 0);
        DUE.is("one RUN", x.tried(Integer.MIN_VALUE, 1, 3), 1);
        DUE.is("RUNS", x.count(6), 82);
        FigureTexts y = Due.run("a=free(1,2);state x(a);");
        int h = 77;
        int wrong = NONE;
        for (int j = 0; j < 2000 && wrong < 2; j++) {
            h = j;
            wrong = firstNought(j, 20);
        }
        DUE.is("the first RUN that is 0", y.tried(h, 20, 0), NONE - wrong);
        DUE.is("the RUNS ahead of it are 1", y.tried(h, wrong, 0), wrong);
        DUE.is("RUNS behind it are done, too", y.count(6), 1 + 20 + wrong);
    }

    /** In which RUN x of FREE 0 is 0 first. */
    private static int firstNought(int seed, int n) {
        int h = seed;
        for (int j = 0; j < n; j++) {
            int drawn = 0;
            for (int i = 0; i < 24; i++) {
                h = next(h);
                drawn = i == 0 ? whole(h) : drawn;
            }
            if (drawn == 0) {
                return j;
            }
        }
        return NONE;
    }

    private static void triedPlaces() {
        FigureTexts x = Due.run("times 12{f=free(1,2);draw f;}");
        int[] seeds = {0, 1, -1, 5, Integer.MAX_VALUE, Integer.MIN_VALUE, 123456789};
        for (int seed : seeds) {
            x.tried(seed, 2, 0);
            int h = seed;
            for (int i = 0; i < 24; i++) {
                h = next(h);
            }
            for (int k = 0; k < 12; k++) {
                h = next(h);
                DUE.is("x of FREE " + k + " by " + seed, x.number(k, 0, 0), whole(h));
                h = next(h);
                DUE.is("y of FREE " + k + " by " + seed, x.number(k, 1, 0), whole(h));
                DUE.is("bottom of FREE " + k + " by " + seed, x.number(k, 0, 1), 1);
            }
        }
    }

    private static void triedIsAsItWas() {
        FigureTexts x = Due.run("a=free(1,2);b=free(x(a),4);draw a;draw b;state 1;");
        x.move(1, 5, 6, 7);
        x.move(9, 1, 1, 1);
        x.tried(3, 2, 0);
        DUE.is("leans in it", x.leans(1), 2);
        x.run();
        DUE.is("all are as they were", Due.drawn(x), "(1, 2) (5/7, 6/7)");
        DUE.is("not MOVED", x.loose(0), 0);
        DUE.is("MOVED", x.loose(1), 1);
        DUE.is("MOVED", x.loose(9), 1);
        DUE.is("not MOVED", x.loose(11), 0);
        FigureTexts y = Due.read("draw free(1,2);state 1;");
        DUE.is("tried ahead of run()", y.tried(3, 2, 0), 2);
        DUE.is("it is a RUN", y.count(0), 1);
        DUE.is("with a FREE to sweep", y.sweep(0, 1, 1, 1, 0), 2);
    }

    private static void triedRefused() {
        FigureTexts none = new FigureTexts();
        DUE.is("tried without a figure", none.tried(1, 1, 0), STATE);
        DUE.is("tried 0 without a figure", none.tried(1, 0, 0), OUTSIDE);
        FigureTexts x = Due.run("draw free(1,2);state 1;");
        DUE.is("0 RUNS", x.tried(1, 0, 0), OUTSIDE);
        DUE.is("21 RUNS", x.tried(1, 21, 0), OUTSIDE);
        DUE.is("-1 RUNS", x.tried(1, -1, 0), OUTSIDE);
        DUE.is("STATED -1", x.tried(1, 1, -1), OUTSIDE);
        DUE.is("RUNS", x.count(6), 1);
        DUE.is("the latest RUN stays", Due.drawn(x), "(1, 2)");
    }
}
