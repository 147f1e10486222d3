/** Promise 3: cut. */
public final class Promise03CutTest {
    private static final Due DUE = new Due("Promise 3, cut");

    public static void main(String[] args) {
        DUE.holds("THE TAPE keeps its first n bytes", Promise03CutTest::keepsTheFirst);
        DUE.holds("how many went", Promise03CutTest::howManyWent);
        DUE.holds("OUTSIDE: n is not 0 ..", Promise03CutTest::tooSmall);
        DUE.holds("OUTSIDE: .. as many as it has", Promise03CutTest::tooLarge);
        DUE.holds("an empty TAPE", Promise03CutTest::emptyTape);
        DUE.holds("a full TAPE", Promise03CutTest::fullTape);
        DUE.end();
    }

    private static void keepsTheFirst() {
        FigureTexts x = new FigureTexts();
        Due.feed(x, "     $    ");
        x.cut(6);
        DUE.is("cut(6) keeps byte 5", x.read(), -1);
        DUE.is("its place", x.place(), 5);
        Due.feed(x, "     $    ");
        x.cut(5);
        DUE.is("cut(5) does not", x.read(), 0);
        Due.feed(x, "draw 1; draw 2; draw");
        x.cut(8);
        Due.feed(x, "draw 3;");
        DUE.is("what comes then lies behind them", x.read(), 4);
        x.run();
        DUE.is("DRAWN", Due.drawn(x), "1 3");
    }

    private static void howManyWent() {
        FigureTexts x = new FigureTexts();
        Due.feed(x, "draw 1; draw 2; draw");
        DUE.is("cut(20) of 20", x.cut(20), 0);
        DUE.is("cut(19)", x.cut(19), 1);
        DUE.is("cut(8)", x.cut(8), 11);
        DUE.is("count(7)", x.count(7), 8);
        DUE.is("cut(0)", x.cut(0), 8);
        DUE.is("count(7)", x.count(7), 0);
    }

    private static void tooSmall() {
        FigureTexts x = new FigureTexts();
        Due.feed(x, "draw 1;");
        DUE.refuses(x, "cut(-1)", () -> x.cut(-1), Due.OUTSIDE);
        DUE.refuses(x, "cut(least)", () -> x.cut(Integer.MIN_VALUE), Due.OUTSIDE);
        DUE.is("the text is as it was", x.read(), 2);
    }

    private static void tooLarge() {
        FigureTexts x = new FigureTexts();
        Due.feed(x, "draw 1;");
        DUE.refuses(x, "cut(8) of 7", () -> x.cut(8), Due.OUTSIDE);
        DUE.refuses(x, "cut(3000) of 7", () -> x.cut(3000), Due.OUTSIDE);
        DUE.refuses(x, "cut(greatest)", () -> x.cut(Integer.MAX_VALUE), Due.OUTSIDE);
        DUE.is("the text is as it was", x.read(), 2);
    }

    private static void emptyTape() {
        FigureTexts x = new FigureTexts();
        DUE.is("cut(0)", x.cut(0), 0);
        DUE.refuses(x, "cut(1)", () -> x.cut(1), Due.OUTSIDE);
        DUE.refuses(x, "cut(-1)", () -> x.cut(-1), Due.OUTSIDE);
    }

    private static void fullTape() {
        FigureTexts x = new FigureTexts();
        Due.feed(x, Due.times(3000, " "));
        DUE.is("cut(3000)", x.cut(3000), 0);
        DUE.refuses(x, "cut(3001)", () -> x.cut(3001), Due.OUTSIDE);
        DUE.is("cut(2999)", x.cut(2999), 1);
        DUE.is("cut(0)", x.cut(0), 2999);
    }
}
