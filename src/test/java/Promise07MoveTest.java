/** Promise 7: move. */
public final class Promise07MoveTest {
    private static final int MOST = 1000000000;
    private static final Due DUE = new Due("Promise 7, move");

    public static void main(String[] args) {
        DUE.holds("FREE k is MOVED to x / down, y / down: 1", Promise07MoveTest::moves);
        DUE.holds("the figure is worked out anew by the next RUN, not ahead of it", Promise07MoveTest::notAheadOfTheRun);
        DUE.holds("MOVED again: the latest place", Promise07MoveTest::movedAgain);
        DUE.holds("k 0 .. 11, whether it comes or not", Promise07MoveTest::anyFree);
        DUE.holds("down below 0", Promise07MoveTest::downBelowNought);
        DUE.holds("OUTSIDE: k", Promise07MoveTest::outsideK);
        DUE.holds("OUTSIDE: also down 0", Promise07MoveTest::downNought);
        DUE.holds("OUTSIDE: one of these FRACTIONS would be LOST", Promise07MoveTest::lost);
        DUE.holds("not LOST at the bounds, and in least terms", Promise07MoveTest::notLost);
        DUE.holds("STATE: no FIGURE", Promise07MoveTest::noFigure);
        DUE.end();
    }

    private static String moved(int x, int y, int down) {
        FigureTexts f = Due.read("draw free(1,2);");
        DUE.is("move(0, " + x + ", " + y + ", " + down + ")", f.move(0, x, y, down), 1);
        f.run();
        return Due.drawn(f);
    }

    private static void moves() {
        DUE.is("to whole numbers", moved(5, -6, 1), "(5, -6)");
        DUE.is("to fractions", moved(7, -3, 2), "(7/2, -3/2)");
        DUE.is("in least terms", moved(6, 4, 8), "(3/4, 1/2)");
        DUE.is("to nought", moved(0, 0, 9), "(0, 0)");
    }

    private static void notAheadOfTheRun() {
        FigureTexts x = Due.run("a=free(1,2);b=free(3,4);draw a;draw b;draw mid(a,b);");
        DUE.is("DRAWN", Due.drawn(x), "(1, 2) (3, 4) (2, 3)");
        x.move(1, 7, -3, 2);
        DUE.is("before a RUN", Due.drawn(x), "(1, 2) (3, 4) (2, 3)");
        x.run();
        DUE.is("behind it", Due.drawn(x), "(1, 2) (7/2, -3/2) (9/4, 1/4)");
        DUE.is("its KIND", x.kind(1), 2);
        x.run();
        DUE.is("behind another one", Due.drawn(x), "(1, 2) (7/2, -3/2) (9/4, 1/4)");
    }

    private static void movedAgain() {
        FigureTexts x = Due.read("draw free(1,2);");
        DUE.is("the first move()", x.move(0, 5, 5, 1), 1);
        DUE.is("the second move()", x.move(0, 6, 6, 1), 1);
        x.run();
        DUE.is("DRAWN", Due.drawn(x), "(6, 6)");
        DUE.is("loose()", x.loose(0), 1);
        DUE.is("loose() again", x.loose(0), 0);
    }

    private static void anyFree() {
        FigureTexts x = Due.read("k=0;times 12{draw free(k,0);k=k+1;}");
        for (int k = 0; k < 12; k++) {
            DUE.is("move(" + k + ", ..)", x.move(k, 100 + k, 1, 1), 1);
        }
        x.run();
        for (int k = 0; k < 12; k++) {
            DUE.is("x of FREE " + k, x.number(k, 0, 0), 100 + k);
        }
        FigureTexts y = Due.read("draw 1;");
        DUE.is("move(0, ..) without FREES", y.move(0, 1, 1, 1), 1);
        DUE.is("move(11, ..) without FREES", y.move(11, 1, 1, 1), 1);
        DUE.is("loose(11)", y.loose(11), 1);
    }

    private static void downBelowNought() {
        DUE.is("by -2", moved(6, -5, -2), "(-3, 5/2)");
        DUE.is("by -1", moved(MOST, -MOST, -1), "(-1000000000, 1000000000)");
        DUE.is("by the least number", moved(Integer.MIN_VALUE, 0, Integer.MIN_VALUE), "(1, 0)");
    }

    private static void outsideK() {
        FigureTexts x = Due.run("draw free(1,2);");
        for (int k : new int[] {-1, 12, Integer.MIN_VALUE, Integer.MAX_VALUE}) {
            DUE.refuses(x, "move(" + k + ", ..)", () -> x.move(k, 1, 1, 1), Due.OUTSIDE);
        }
        DUE.is("nothing is MOVED", x.loose(0) + x.loose(11), 0);
    }

    private static void downNought() {
        FigureTexts x = Due.run("draw free(1,2);");
        DUE.refuses(x, "move(0, 1, 1, 0)", () -> x.move(0, 1, 1, 0), Due.OUTSIDE);
        DUE.refuses(x, "move(0, 0, 0, 0)", () -> x.move(0, 0, 0, 0), Due.OUTSIDE);
        DUE.is("nothing is MOVED", x.loose(0), 0);
        x.move(0, 5, 5, 1);
        x.move(0, 1, 1, 0);
        x.run();
        DUE.is("what was MOVED is so still", Due.drawn(x), "(5, 5)");
    }

    private static void lost() {
        FigureTexts x = Due.run("draw free(1,2);");
        int[][] places = {{MOST + 1, 1, 1}, {-MOST - 1, 1, 1}, {1, MOST + 1, 1}, {1, -MOST - 1, 1}, {1, 0, MOST + 1}, {0, 1, MOST + 1},
            {1, 0, -MOST - 1}, {Integer.MIN_VALUE, 0, 1}, {Integer.MIN_VALUE, 0, -1}, {0, Integer.MAX_VALUE, 1}, {0, 1, Integer.MIN_VALUE},
            {Integer.MAX_VALUE, 1, Integer.MIN_VALUE}};
        for (int[] p : places) {
            DUE.refuses(x, "move(0, " + p[0] + ", " + p[1] + ", " + p[2] + ")", () -> x.move(0, p[0], p[1], p[2]), Due.OUTSIDE);
        }
        DUE.is("nothing is MOVED", x.loose(0), 0);
    }

    private static void notLost() {
        DUE.is("the greatest tops", moved(MOST, -MOST, 1), "(1000000000, -1000000000)");
        DUE.is("the greatest bottom", moved(1, -1, MOST), "(1/1000000000, -1/1000000000)");
        DUE.is("in least terms", moved(2000000000, -2000000000, 2), "(1000000000, -1000000000)");
        DUE.is("bottoms in least terms", moved(2, 0, 2000000000), "(1/1000000000, 0)");
        DUE.is("0 by a large number", moved(0, 0, Integer.MAX_VALUE), "(0, 0)");
    }

    private static void noFigure() {
        FigureTexts x = new FigureTexts();
        DUE.refuses(x, "move()", () -> x.move(0, 1, 1, 1), Due.STATE);
        DUE.refuses(x, "move(11, ..)", () -> x.move(11, 1, 1, 1), Due.STATE);
        Due.feed(x, "draw free(1,2);");
        x.read();
        DUE.is("nothing is MOVED", x.loose(0), 0);
    }
}
