/** Promise 10: count. */
public final class Promise10CountTest {
    private static final Due DUE = new Due("Promise 10, count");

    public static void main(String[] args) {
        DUE.holds("Of the latest RUN (0 before one)", Promise10CountTest::beforeARun);
        DUE.holds("0 DRAWN: none, some, 40", Promise10CountTest::drawn);
        DUE.holds("1 STATED: none, some (NONE, too), 40", Promise10CountTest::stated);
        DUE.holds("2 FALLS: none, some, 12", Promise10CountTest::falls);
        DUE.holds("3 FREES: none, some, 12", Promise10CountTest::frees);
        DUE.holds("4 STEPS: none, some, 400", Promise10CountTest::steps);
        DUE.holds("5 whether it ended SPENT", Promise10CountTest::spent);
        DUE.holds("6 RUNS in all", Promise10CountTest::runs);
        DUE.holds("7 bytes of THE TAPE", Promise10CountTest::tape);
        DUE.holds("8 of THE OUT", Promise10CountTest::out);
        DUE.holds("of the latest RUN also behind sweep(), tried()", Promise10CountTest::latest);
        DUE.holds("OUTSIDE", Promise10CountTest::outside);
        DUE.end();
    }

    private static void counts(String text, int what, int due) {
        DUE.is("count(" + what + ") of " + text, Due.run(text).count(what), due);
    }

    private static void beforeARun() {
        FigureTexts x = Due.read("a=free(1,2);draw a;state 1;draw 1/0;");
        for (int what = 0; what <= 8; what++) {
            DUE.is("count(" + what + ")", x.count(what), 0);
        }
        x.run();
        int[] due = {1, 1, 1, 1, 12, 0, 1, 0, 0};
        for (int what = 0; what <= 8; what++) {
            DUE.is("count(" + what + ") behind it", x.count(what), due[what]);
        }
    }

    private static void drawn() {
        counts("", 0, 0);
        counts("draw 1;draw 1/0;draw 2;", 0, 2);
        counts("times 40{draw 1;}", 0, 40);
        counts("times 41{draw 1;}", 0, 40);
        counts("draw 1;times 400{}", 0, 1);
    }

    private static void stated() {
        counts("draw 1;", 1, 0);
        counts("state 1;state 0;state 1/0;", 1, 3);
        counts("times 40{state 1;}", 1, 40);
        counts("times 41{state 1;}", 1, 40);
        counts("state 1;times 400{}", 1, 1);
    }

    private static void falls() {
        counts("draw 1;", 2, 0);
        counts("draw 1/0;a=1/0;", 2, 2);
        counts("times 11{draw 1/0;}", 2, 11);
        counts("times 12{draw 1/0;}", 2, 12);
        counts("times 13{draw 1/0;}", 2, 12);
    }

    private static void frees() {
        counts("draw point(1,1);", 3, 0);
        counts("a=free(1,1);a=free(1,1);", 3, 2);
        counts("times 12{a=free(1,1);}", 3, 12);
        counts("times 13{a=free(1,1);}", 3, 12);
        counts("a=free(1,1);times 400{}", 3, 1);
    }

    private static void steps() {
        counts("", 4, 0);
        counts("draw 1;", 4, 2);
        counts("times 398{}", 4, 400);
        counts("times 399{}", 4, 400);
        counts("times 999999999{}", 4, 400);
    }

    private static void spent() {
        counts("", 5, 0);
        counts("times 398{}", 5, 0);
        counts("times 399{}", 5, 1);
        counts("times 11{draw 1/0;}", 5, 0);
        counts("times 12{draw 1/0;}", 5, 1);
    }

    private static void runs() {
        FigureTexts x = Due.read("draw free(1,1);state 1;");
        DUE.is("before one", x.count(6), 0);
        x.run();
        DUE.is("behind run()", x.count(6), 1);
        x.sweep(0, 1, 1, 4, 0);
        DUE.is("behind sweep() of 5", x.count(6), 6);
        x.tried(1, 3, 0);
        DUE.is("behind tried() of 3", x.count(6), 9);
        x.sweep(1, 1, 1, 4, 0);
        x.sweep(0, 1, 1, 21, 0);
        x.tried(1, 0, 0);
        DUE.is("behind refused ones", x.count(6), 9);
        x.read();
        DUE.is("behind read()", x.count(6), 9);
        counts("times 500{}", 6, 1);
    }

    private static void tape() {
        FigureTexts x = new FigureTexts();
        DUE.is("empty", x.count(7), 0);
        x.feed(0, 0, 0, 0, 0);
        DUE.is("behind feed()", x.count(7), 20);
        x.cut(3);
        DUE.is("behind cut(3)", x.count(7), 3);
        x.read();
        DUE.is("behind read()", x.count(7), 0);
        FigureTexts y = Due.read("draw 1;");
        y.print();
        y.back();
        DUE.is("behind back()", y.count(7), 8);
        FigureTexts z = new FigureTexts();
        Due.feed(z, Due.times(3000, " "));
        DUE.is("full", z.count(7), 3000);
    }

    private static void out() {
        FigureTexts x = Due.run("draw point(1,2);");
        DUE.is("empty", x.count(8), 0);
        x.print();
        DUE.is("behind print()", x.count(8), 18);
        x.write(0);
        DUE.is("behind write(0)", x.count(8), 6);
        x.back();
        DUE.is("behind back()", x.count(8), 6);
        x.cut(0);
        x.read();
        DUE.is("behind read()", x.count(8), 6);
        x.print();
        DUE.is("behind print() of an empty FIGURE", x.count(8), 0);
    }

    private static void latest() {
        FigureTexts x = Due.run("f=free(0,0);times x(f){draw 1;state 1;}times y(f){draw 1/0;}");
        DUE.is("DRAWN", x.count(0), 0);
        x.sweep(0, 1, 1, 3, 0);
        DUE.is("DRAWN in the last of a sweep()", x.count(0), 3);
        DUE.is("STATED in it", x.count(1), 3);
        DUE.is("FALLS in it", x.count(2), 3);
        x.tried(0, 1, 0);
        int h = 12345;
        int first = (h >>> 16) % 41 - 20;
        DUE.is("a drawn place below 0", first, -20);
        DUE.is("DRAWN in the last of tried()", x.count(0), 0);
        DUE.is("SIZE in it", x.fall(0, 0), Due.SIZE);
    }

    private static void outside() {
        FigureTexts x = Due.run("draw 1;");
        for (int what : new int[] {-1, 9, Integer.MIN_VALUE, Integer.MAX_VALUE}) {
            DUE.refuses(x, "count(" + what + ")", () -> x.count(what), Due.OUTSIDE);
        }
        FigureTexts none = new FigureTexts();
        DUE.is("count(9) of a new object", none.count(9), Due.OUTSIDE);
    }
}
