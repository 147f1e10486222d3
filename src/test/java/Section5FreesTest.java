/** Section 5 of the document, FREES, and the RUNS of a life. */
public final class Section5FreesTest {
    private static final Due DUE = new Due("Section 5, FREES");

    public static void main(String[] args) {
        DUE.holds("FREES are numbered in a RUN as they come", Section5FreesTest::numbered);
        DUE.holds("a free() that FAILS has no number", Section5FreesTest::failing);
        DUE.holds("12 at most (then ROOM)", Section5FreesTest::twelve);
        DUE.holds("ROOM behind NOTHING, CAST", Section5FreesTest::roomIsLast);
        DUE.holds("free(u, v) is at u, v, unless that number is MOVED: then at the place told", Section5FreesTest::places);
        DUE.holds("u, v are worked out and asked also of a MOVED one", Section5FreesTest::askedWhenMoved);
        DUE.holds("It LEANS on itself and, if it is not MOVED, on u, v", Section5FreesTest::leans);
        DUE.holds("numbered anew in each RUN", Section5FreesTest::anew);
        DUE.holds("RUNS of a life are 600 at most", Section5FreesTest::sixHundred);
        DUE.holds("those of sweep(), tried() counted", Section5FreesTest::counted);
        DUE.holds("a call that would need more is refused by SPENT", Section5FreesTest::needsMore);
        DUE.holds("RUNS stay SPENT behind read()", Section5FreesTest::behindRead);
        DUE.end();
    }

    private static void numbered() {
        FigureTexts x = Due.read("macro f(){give free(2,2);}a=free(1,1);b=f();times 2{draw free(3,3);}draw a;draw b;");
        for (int k = 0; k < 4; k++) {
            x.move(k, 10 + k, 0, 1);
        }
        x.run();
        DUE.is("DRAWN", Due.drawn(x), "(12, 0) (13, 0) (10, 0) (11, 0)");
        FigureTexts y = Due.run("draw mid(free(1,1),free(3,3));draw free(0,0);");
        DUE.is("arguments from the left", y.leans(0), 3);
        DUE.is("the next one", y.leans(1), 4);
    }

    private static void failing() {
        FigureTexts x = Due.run("a=free(1,row(1));b=free(1,1/0);c=free(2,3);draw c;");
        DUE.is("FREES", x.count(3), 1);
        DUE.is("its bit", x.leans(0), 1);
        x.move(0, 9, 9, 1);
        x.run();
        DUE.is("its place", Due.drawn(x), "(9, 9)");
    }

    private static void twelve() {
        FigureTexts x = Due.run("times 12{f=free(1,2);}draw f;");
        DUE.is("12 FREES", x.count(3), 12);
        DUE.is("no FALL", x.count(2), 0);
        DUE.is("the last one's bit", x.leans(0), 1 << 11);
        FigureTexts y = Due.run("times 14{f=free(1,2);}draw none(f);");
        DUE.is("FREES", y.count(3), 12);
        DUE.is("FALLS", Due.falls(y), Due.fall(Due.ROOM, 11) + " " + Due.fall(Due.ROOM, 11));
        DUE.is("nothing came", Due.drawn(y), "1");
    }

    private static void roomIsLast() {
        FigureTexts x = Due.run("times 12{f=free(1,2);}w=row(1);f=free(1,w);f=free(w[0],1);f=free(1,1/0);");
        DUE.is("FALLS", Due.falls(x), Due.fall(Due.CAST, 33) + " " + Due.fall(Due.NOTHING, 45) + " " + Due.fall(Due.ZERO, 68));
    }

    private static void places() {
        FigureTexts x = Due.read("draw free(1/2,-3);draw free(5,6);");
        x.run();
        DUE.is("not MOVED", Due.drawn(x), "(1/2, -3) (5, 6)");
        x.move(1, 7, 8, 3);
        x.run();
        DUE.is("MOVED", Due.drawn(x), "(1/2, -3) (7/3, 8/3)");
        DUE.is("its KIND", x.kind(1), 2);
    }

    private static void askedWhenMoved() {
        FigureTexts x = Due.read("w=row(1);draw free(1/0,1);draw free(w,1);draw free(1,w[0]);draw free(1,1);");
        x.move(0, 5, 5, 1);
        x.run();
        DUE.is("FALLS", Due.falls(x), Due.fall(Due.ZERO, 20) + " " + Due.fall(Due.CAST, 31) + " " + Due.fall(Due.NOTHING, 46));
        DUE.is("DRAWN", Due.drawn(x), "(5, 5)");
    }

    private static void leans() {
        FigureTexts x = Due.run("a=free(1,2);b=free(x(a),3);c=free(1,y(b));draw a;draw b;draw c;");
        DUE.is("leans(0)", x.leans(0), 1);
        DUE.is("leans(1)", x.leans(1), 3);
        DUE.is("leans(2)", x.leans(2), 7);
        x.move(1, 5, 5, 1);
        x.run();
        DUE.is("leans(1) of a MOVED one", x.leans(1), 2);
        DUE.is("leans(2) of what hangs on it", x.leans(2), 6);
    }

    private static void anew() {
        FigureTexts x = Due.read("draw free(1,2);draw free(3,4);");
        for (int i = 0; i < 10; i++) {
            DUE.is("run()", x.run(), 2);
            DUE.is("FREES", x.count(3), 2);
            DUE.is("the second one's bit", x.leans(1), 2);
        }
    }

    private static FigureTexts nearlySpent() {
        FigureTexts x = Due.run("f=free(0,0);draw f;state 1;");
        for (int i = 0; i < 28; i++) {
            x.sweep(0, 1, 1, 20, 0);
        }
        DUE.is("RUNS", x.count(6), 589);
        return x;
    }

    private static void sixHundred() {
        FigureTexts x = nearlySpent();
        for (int i = 590; i <= 600; i++) {
            DUE.is("run()", x.run(), 1);
            DUE.is("RUNS", x.count(6), i);
        }
        DUE.refuses(x, "run()", x::run, Due.SPENT);
        DUE.refuses(x, "sweep()", () -> x.sweep(0, 1, 1, 0, 0), Due.SPENT);
        DUE.refuses(x, "tried()", () -> x.tried(1, 1, 0), Due.SPENT);
        DUE.is("RUNS", x.count(6), 600);
    }

    private static void counted() {
        FigureTexts x = nearlySpent();
        DUE.is("5 RUNS tried", x.tried(1, 5, 0), 5);
        DUE.is("RUNS", x.count(6), 594);
        DUE.is("6 RUNS swept", x.sweep(0, 1, 1, 5, 0), 6);
        DUE.is("RUNS", x.count(6), 600);
        DUE.is("run()", x.run(), Due.SPENT);
    }

    private static void needsMore() {
        FigureTexts x = nearlySpent();
        DUE.refuses(x, "a sweep() of 12", () -> x.sweep(0, 1, 1, 11, 0), Due.SPENT);
        DUE.refuses(x, "12 RUNS tried", () -> x.tried(1, 12, 0), Due.SPENT);
        DUE.is("11 RUNS tried", x.tried(1, 11, 0), 11);
        DUE.is("run()", x.run(), Due.SPENT);
        FigureTexts y = nearlySpent();
        DUE.is("a sweep() of 11", y.sweep(0, 1, 1, 10, 0), 11);
        DUE.is("run()", y.run(), Due.SPENT);
    }

    private static void behindRead() {
        FigureTexts x = nearlySpent();
        x.tried(1, 11, 0);
        Due.feed(x, "draw 1;");
        DUE.is("read()", x.read(), 2);
        DUE.is("run()", x.run(), Due.SPENT);
        DUE.is("no RUN was done", x.count(0), 0);
        DUE.is("tried()", x.tried(1, 1, 0), Due.SPENT);
        DUE.is("print() goes on", x.print(), 8);
    }
}
