/**
 * The row ahead of the promises: "Calls answer, the first of these that fits: UNKNOWN, OUTSIDE, STATE, SPENT; then nothing
 * changes. Exceptions are thrown where told, ahead of these."
 */
public final class OrderOfAnswersTest {
    private static final Due DUE = new Due("The order of answers");

    public static void main(String[] args) {
        DUE.holds("about: OUTSIDE ahead of STATE", () -> {
            FigureTexts x = new FigureTexts();
            DUE.refuses(x, "about(4)", () -> x.about(4), Due.OUTSIDE);
            DUE.refuses(x, "about(3)", () -> x.about(3), Due.STATE);
        });
        DUE.holds("move: OUTSIDE ahead of STATE", OrderOfAnswersTest::move);
        DUE.holds("loose: OUTSIDE ahead of STATE", () -> {
            FigureTexts x = new FigureTexts();
            DUE.refuses(x, "loose(12)", () -> x.loose(12), Due.OUTSIDE);
            DUE.refuses(x, "loose(-1)", () -> x.loose(-1), Due.OUTSIDE);
            DUE.refuses(x, "loose(0)", () -> x.loose(0), Due.STATE);
        });
        DUE.holds("tried: OUTSIDE ahead of STATE", () -> {
            FigureTexts x = new FigureTexts();
            DUE.refuses(x, "tried(1, 0, 0)", () -> x.tried(1, 0, 0), Due.OUTSIDE);
            DUE.refuses(x, "tried(1, 21, 0)", () -> x.tried(1, 21, 0), Due.OUTSIDE);
            DUE.refuses(x, "tried(1, 1, -1)", () -> x.tried(1, 1, -1), Due.OUTSIDE);
            DUE.refuses(x, "tried(1, 1, 0)", () -> x.tried(1, 1, 0), Due.STATE);
        });
        DUE.holds("tried: OUTSIDE ahead of SPENT", OrderOfAnswersTest::triedSpent);
        DUE.holds("sweep: UNKNOWN ahead of OUTSIDE, STATE, SPENT", OrderOfAnswersTest::sweepUnknown);
        DUE.holds("sweep: OUTSIDE ahead of SPENT", OrderOfAnswersTest::sweepOutside);
        DUE.holds("fall: OUTSIDE ahead of NONE", () -> {
            FigureTexts x = Due.run("draw 1/0;");
            DUE.refuses(x, "fall(7, 2)", () -> x.fall(7, 2), Due.OUTSIDE);
            DUE.is("fall(7, 1)", x.fall(7, 1), Due.NONE);
        });
        DUE.holds("then nothing changes: what is MOVED", OrderOfAnswersTest::movedStays);
        DUE.holds("then nothing changes: THE TAPE's bytes", OrderOfAnswersTest::tapeStays);
        DUE.holds("Exceptions are thrown where told, and change nothing", OrderOfAnswersTest::exceptions);
        DUE.holds("calls without exceptions throw none, by any number", OrderOfAnswersTest::noExceptions);
        DUE.end();
    }

    private static void move() {
        FigureTexts x = new FigureTexts();
        DUE.refuses(x, "move(12, ..)", () -> x.move(12, 1, 1, 1), Due.OUTSIDE);
        DUE.refuses(x, "move(0, 1, 1, 0)", () -> x.move(0, 1, 1, 0), Due.OUTSIDE);
        DUE.refuses(x, "move(0, 2000000000, 1, 1)", () -> x.move(0, 2000000000, 1, 1), Due.OUTSIDE);
        DUE.refuses(x, "move(0, 1, 2000000000, 1)", () -> x.move(0, 1, 2000000000, 1), Due.OUTSIDE);
        DUE.refuses(x, "move(0, 1, 1, 1)", () -> x.move(0, 1, 1, 1), Due.STATE);
    }

    private static FigureTexts spent() {
        FigureTexts x = Due.run("f=free(0,0);draw f;state 1;");
        for (int i = 0; i < 29; i++) {
            x.tried(i, 20, 0);
        }
        x.tried(1, 19, 0);
        DUE.is("RUNS", x.count(6), 600);
        return x;
    }

    private static void triedSpent() {
        FigureTexts x = spent();
        DUE.refuses(x, "tried(1, 0, 0)", () -> x.tried(1, 0, 0), Due.OUTSIDE);
        DUE.refuses(x, "tried(1, 21, 0)", () -> x.tried(1, 21, 0), Due.OUTSIDE);
        DUE.refuses(x, "tried(1, 1, -1)", () -> x.tried(1, 1, -1), Due.OUTSIDE);
        DUE.refuses(x, "tried(1, 1, 0)", () -> x.tried(1, 1, 0), Due.SPENT);
    }

    private static void sweepUnknown() {
        FigureTexts none = new FigureTexts();
        DUE.refuses(none, "without a FIGURE", () -> none.sweep(0, 1, 1, 1, 0), Due.UNKNOWN);
        DUE.refuses(none, "without a FIGURE, n 21", () -> none.sweep(0, 1, 1, 21, 0), Due.UNKNOWN);
        FigureTexts x = Due.run("f=free(0,0);state 1;");
        DUE.refuses(x, "k 1, n -1", () -> x.sweep(1, 1, 1, -1, 0), Due.UNKNOWN);
        DUE.refuses(x, "k -1, i -1", () -> x.sweep(-1, 1, 1, 1, -1), Due.UNKNOWN);
        DUE.refuses(x, "k 1, dx the least number", () -> x.sweep(1, Integer.MIN_VALUE, 1, 1, 0), Due.UNKNOWN);
        FigureTexts y = spent();
        DUE.refuses(y, "k 1 when SPENT", () -> y.sweep(1, 1, 1, 0, 0), Due.UNKNOWN);
    }

    private static void sweepOutside() {
        FigureTexts x = spent();
        DUE.refuses(x, "n 21", () -> x.sweep(0, 1, 1, 21, 0), Due.OUTSIDE);
        DUE.refuses(x, "n -1", () -> x.sweep(0, 1, 1, -1, 0), Due.OUTSIDE);
        DUE.refuses(x, "i -1", () -> x.sweep(0, 1, 1, 0, -1), Due.OUTSIDE);
        DUE.refuses(x, "a LOST place", () -> x.sweep(0, 2000000000, 1, 1, 0), Due.OUTSIDE);
        DUE.refuses(x, "all well", () -> x.sweep(0, 1, 1, 1, 0), Due.SPENT);
    }

    private static void movedStays() {
        FigureTexts x = Due.run("f=free(0,0);draw f;g=free(x(f),1);draw g;state 1;");
        x.move(0, 5, 6, 1);
        x.move(0, 1, 1, 0);
        x.move(0, Integer.MIN_VALUE, 1, 1);
        x.move(1, 1, Integer.MIN_VALUE, 1);
        x.move(1, 0, 1, 1000000001);
        x.loose(-1);
        x.sweep(0, Integer.MAX_VALUE, 0, 3, 0);
        x.sweep(1, 0, 0, 30, 0);
        x.tried(1, 30, 0);
        x.run();
        DUE.is("DRAWN", Due.drawn(x), "(5, 6) (5, 1)");
        DUE.is("loose(0)", x.loose(0), 1);
        DUE.is("loose(1)", x.loose(1), 0);
    }

    private static void tapeStays() {
        FigureTexts x = Due.read(Due.times(10, "if 1{") + Due.times(115, "draw 1;") + Due.times(10, "}"));
        x.print();
        Due.feed(x, Due.times(2993, " ") + "draw 8;");
        x.cut(3001);
        x.cut(-1);
        x.feed(1, 1, 1, 1, 1);
        x.back();
        DUE.is("count(7)", x.count(7), 3000);
        DUE.is("read()", x.read(), 2);
        x.run();
        DUE.is("DRAWN", Due.drawn(x), "8");
    }

    private static void exceptions() {
        FigureTexts x = Due.run("draw free(1,2);state 1;");
        x.write(0);
        String before = Due.seen(x);
        for (int i : new int[] {-1, 6, Integer.MIN_VALUE, Integer.MAX_VALUE}) {
            DUE.throwsOutOfBounds("kind(" + i + ")", () -> x.kind(i));
            DUE.throwsOutOfBounds("number(" + i + ", 9, 9)", () -> x.number(i, 9, 9));
            DUE.throwsOutOfBounds("leans(" + i + ")", () -> x.leans(i));
            DUE.throwsOutOfBounds("stated(" + i + ")", () -> x.stated(i));
            DUE.throwsOutOfBounds("same(" + i + ", 0)", () -> x.same(i, 0));
            DUE.throwsOutOfBounds("write(" + i + ")", () -> x.write(i));
            DUE.throwsOutOfBounds("out(" + i + ")", () -> x.out(i));
        }
        DUE.is("what is seen", Due.seen(x), before);
    }

    private static void noExceptions() {
        int[] edges = {Integer.MIN_VALUE, -1, 0, 1, 12, 21, 3001, Integer.MAX_VALUE};
        for (int one : edges) {
            for (int two : edges) {
                for (int text = 0; text < 2; text++) {
                    FigureTexts x = text == 0 ? new FigureTexts() : Due.run("draw free(1,2);state 1;");
                    x.cut(one);
                    x.about(one);
                    x.move(one, two, one, two);
                    x.loose(one);
                    x.count(one);
                    x.fall(one, two);
                    x.sweep(0, one, two, 20, one);
                    x.sweep(one, two, one, two, one);
                    x.swept(one);
                    x.tried(one, two, one);
                    x.tried(one, 20, two);
                    x.feed(one, two, one, two, one);
                    DUE.is("whether RUNS are counted", x.count(6) >= 0, true);
                }
            }
        }
    }
}
