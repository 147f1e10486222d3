/** Promise 8: loose. */
public final class Promise08LooseTest {
    private static final Due DUE = new Due("Promise 8, loose");

    public static void main(String[] args) {
        DUE.holds("FREE k is not MOVED any more", Promise08LooseTest::notMoved);
        DUE.holds("whether it was (1, 0)", Promise08LooseTest::whether);
        DUE.holds("FREE k alone", Promise08LooseTest::alone);
        DUE.holds("OUTSIDE", Promise08LooseTest::outside);
        DUE.holds("STATE: no FIGURE", Promise08LooseTest::noFigure);
        DUE.end();
    }

    private static void notMoved() {
        FigureTexts x = Due.read("draw free(1,2);");
        x.move(0, 5, 6, 1);
        x.run();
        x.loose(0);
        DUE.is("before a RUN", Due.drawn(x), "(5, 6)");
        x.run();
        DUE.is("behind it", Due.drawn(x), "(1, 2)");
    }

    private static void whether() {
        FigureTexts x = Due.read("draw free(1,2);");
        DUE.is("before a move()", x.loose(0), 0);
        x.move(0, 1, 2, 1);
        DUE.is("MOVED to where it is", x.loose(0), 1);
        DUE.is("again", x.loose(0), 0);
        x.move(11, 1, 2, 1);
        DUE.is("one that does not come", x.loose(11), 1);
        DUE.is("again", x.loose(11), 0);
    }

    private static void alone() {
        FigureTexts x = Due.read("draw free(1,2);draw free(3,4);");
        x.move(0, 5, 5, 1);
        x.move(1, 6, 6, 1);
        x.loose(0);
        x.run();
        DUE.is("DRAWN", Due.drawn(x), "(1, 2) (6, 6)");
    }

    private static void outside() {
        FigureTexts x = Due.run("draw free(1,2);");
        for (int k : new int[] {-1, 12, Integer.MIN_VALUE, Integer.MAX_VALUE}) {
            DUE.refuses(x, "loose(" + k + ")", () -> x.loose(k), Due.OUTSIDE);
        }
    }

    private static void noFigure() {
        FigureTexts x = new FigureTexts();
        DUE.refuses(x, "loose(0)", () -> x.loose(0), Due.STATE);
        DUE.refuses(x, "loose(11)", () -> x.loose(11), Due.STATE);
    }
}
