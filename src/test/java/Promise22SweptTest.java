/** Promise 22: swept. */
public final class Promise22SweptTest {
    private static final Due DUE = new Due("Promise 22, swept");

    public static void main(String[] args) {
        DUE.holds("SWEPT j of the latest sweep()", Promise22SweptTest::latest);
        DUE.holds("NONE: j is none of its RUNS", Promise22SweptTest::outside);
        DUE.holds("NONE also without one", Promise22SweptTest::without);
        DUE.holds("that was not refused", Promise22SweptTest::refused);
        DUE.holds("run(), tried(), move(), loose() leave it", Promise22SweptTest::stays);
        DUE.holds("what was SWEPT is gone by read(), not by a FAULT", Promise22SweptTest::gone);
        DUE.end();
    }

    private static FigureTexts swept() {
        FigureTexts x = Due.run("a=free(1,2);state x(a)-1;state 1/(x(a)-2);");
        DUE.is("sweep()", x.sweep(0, 1, 0, 2, 0), 2);
        return x;
    }

    private static void latest() {
        FigureTexts x = swept();
        DUE.is("swept(0)", x.swept(0), 0);
        DUE.is("swept(1)", x.swept(1), 1);
        DUE.is("swept(2)", x.swept(2), 1);
        x.run();
        x.sweep(0, 1, 0, 1, 1);
        DUE.is("swept(0) of the next", x.swept(0), 1);
        DUE.is("swept(1) of the next", x.swept(1), Due.NONE);
        DUE.is("swept(2) of the next, which is shorter", x.swept(2), Due.NONE);
    }

    private static void outside() {
        FigureTexts x = swept();
        for (int j : new int[] {-1, 3, 20, 21, Integer.MIN_VALUE, Integer.MAX_VALUE}) {
            DUE.is("swept(" + j + ")", x.swept(j), Due.NONE);
        }
        x.run();
        x.sweep(0, 1, 0, 20, 0);
        DUE.is("swept(20) of 21", x.swept(20), 1);
        DUE.is("swept(21) of 21", x.swept(21), Due.NONE);
    }

    private static void without() {
        DUE.is("swept(0) of a new object", new FigureTexts().swept(0), Due.NONE);
        DUE.is("swept(0) behind run()", Due.run("a=free(1,2);state 1;").swept(0), Due.NONE);
        FigureTexts x = Due.run("a=free(1,2);state 1;");
        x.sweep(1, 1, 1, 1, 0);
        x.sweep(0, 1, 1, 21, 0);
        DUE.is("swept(0) behind refused ones alone", x.swept(0), Due.NONE);
    }

    private static void refused() {
        FigureTexts x = swept();
        x.sweep(1, 1, 0, 0, 0);
        x.sweep(0, 1, 0, -1, 0);
        x.sweep(0, 1, 0, 0, -1);
        x.sweep(0, Integer.MIN_VALUE, 0, 1, 0);
        DUE.is("swept(0)", x.swept(0), 0);
        DUE.is("swept(1)", x.swept(1), 1);
        DUE.is("swept(2)", x.swept(2), 1);
        for (int i = 0; i < 29; i++) {
            x.tried(i, 20, 0);
        }
        DUE.is("a sweep() refused by SPENT", x.sweep(0, 1, 0, 20, 0), Due.SPENT);
        DUE.is("swept(0)", x.swept(0), 0);
        DUE.is("swept(3)", x.swept(3), Due.NONE);
    }

    private static void stays() {
        FigureTexts x = swept();
        x.run();
        x.tried(1, 3, 0);
        x.move(0, 1, 1, 1);
        x.loose(0);
        DUE.is("swept(0)", x.swept(0), 0);
        DUE.is("swept(2)", x.swept(2), 1);
    }

    private static void gone() {
        FigureTexts x = swept();
        Due.feed(x, "draw");
        x.read();
        DUE.is("swept(2) behind a FAULT", x.swept(2), 1);
        Due.feed(x, "draw 1;");
        x.read();
        DUE.is("swept(0) behind read()", x.swept(0), Due.NONE);
        DUE.is("swept(2) behind read()", x.swept(2), Due.NONE);
    }
}
