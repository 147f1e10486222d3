/** Promise 5: place. */
public final class Promise05PlaceTest {
    private static final Due DUE = new Due("Promise 5, place");

    public static void main(String[] args) {
        DUE.holds("Where the FAULT of the latest read() was", Promise05PlaceTest::whereTheFaultWas);
        DUE.holds("NONE: it had none", Promise05PlaceTest::hadNone);
        DUE.holds("NONE: there was no read()", Promise05PlaceTest::noRead);
        DUE.holds("the first byte, the last one, the end", Promise05PlaceTest::edges);
        DUE.holds("no call but read() changes it", Promise05PlaceTest::staysByOtherCalls);
        DUE.end();
    }

    private static void whereTheFaultWas() {
        FigureTexts x = Due.read("draw zz;");
        DUE.is("the first text", x.place(), 5);
        Due.feed(x, "a = 1 $");
        x.read();
        DUE.is("the latest text", x.place(), 6);
    }

    private static void hadNone() {
        FigureTexts x = Due.read("draw zz;");
        Due.feed(x, "draw 1;");
        x.read();
        DUE.is("behind a good text", x.place(), Due.NONE);
        Due.feed(x, "draw zz;");
        x.read();
        x.read();
        DUE.is("behind an empty text", x.place(), Due.NONE);
    }

    private static void noRead() {
        FigureTexts x = new FigureTexts();
        DUE.is("place()", x.place(), Due.NONE);
        Due.feed(x, "$");
        DUE.is("place() of a text that is not read", x.place(), Due.NONE);
    }

    private static void edges() {
        DUE.faults("$", 1, 0);
        DUE.faults("draw 1;$", 1, 7);
        DUE.faults("draw 1", 2, 6);
        DUE.faults("draw 1 \n ", 2, 9);
        DUE.faults(Due.times(2999, " ") + "$", 1, 2999);
        DUE.faults(Due.times(2999, " ") + "a", 2, 3000);
    }

    private static void staysByOtherCalls() {
        FigureTexts x = Due.run("draw free(1,2);state 1;");
        Due.feed(x, "   $");
        x.read();
        x.run();
        x.print();
        x.write(0);
        x.back();
        x.cut(0);
        x.sweep(0, 1, 1, 1, 0);
        x.tried(1, 1, 0);
        x.move(0, 1, 1, 1);
        x.loose(0);
        Due.feed(x, "draw 1;");
        DUE.is("place()", x.place(), 3);
    }
}
