/** Promise 1: a new object has no FIGURE, an empty TAPE, no RUN, nothing MOVED. */
public final class Promise01NewObjectTest {
    private static final Due DUE = new Due("Promise 1, a new object");

    public static void main(String[] args) {
        DUE.holds("the constants", Promise01NewObjectTest::constants);
        DUE.holds("No FIGURE", Promise01NewObjectTest::noFigure);
        DUE.holds("an empty TAPE", Promise01NewObjectTest::emptyTape);
        DUE.holds("THE OUT has nothing either", Promise01NewObjectTest::emptyOut);
        DUE.holds("no RUN", Promise01NewObjectTest::noRun);
        DUE.holds("nothing MOVED", Promise01NewObjectTest::nothingMoved);
        DUE.holds("objects have nothing in common", Promise01NewObjectTest::nothingInCommon);
        DUE.end();
    }

    private static void constants() {
        DUE.is("NONE", FigureTexts.NONE, -1);
        DUE.is("UNKNOWN", FigureTexts.UNKNOWN, -2000000001);
        DUE.is("OUTSIDE", FigureTexts.OUTSIDE, -2000000002);
        DUE.is("STATE", FigureTexts.STATE, -2000000003);
        DUE.is("SPENT", FigureTexts.SPENT, -2000000004);
    }

    private static void noFigure() {
        FigureTexts x = new FigureTexts();
        for (int what = 0; what <= 3; what++) {
            DUE.is("about(" + what + ")", x.about(what), Due.STATE);
        }
        DUE.is("run()", x.run(), Due.STATE);
        DUE.is("print()", x.print(), Due.STATE);
        DUE.is("move()", x.move(0, 1, 1, 1), Due.STATE);
        DUE.is("loose()", x.loose(0), Due.STATE);
        DUE.is("tried()", x.tried(1, 1, 0), Due.STATE);
        DUE.is("place()", x.place(), Due.NONE);
    }

    private static void emptyTape() {
        FigureTexts x = new FigureTexts();
        DUE.is("count(7)", x.count(7), 0);
        DUE.is("cut(1)", x.cut(1), Due.OUTSIDE);
        DUE.is("cut(0)", x.cut(0), 0);
        DUE.is("read()", x.read(), 0);
    }

    private static void emptyOut() {
        FigureTexts x = new FigureTexts();
        DUE.is("count(8)", x.count(8), 0);
        DUE.throwsOutOfBounds("out(0)", () -> x.out(0));
        DUE.is("back()", x.back(), 0);
    }

    private static void noRun() {
        FigureTexts x = new FigureTexts();
        for (int what = 0; what <= 6; what++) {
            DUE.is("count(" + what + ")", x.count(what), 0);
        }
        DUE.is("sweep()", x.sweep(0, 1, 1, 1, 0), Due.UNKNOWN);
        DUE.is("swept(0)", x.swept(0), Due.NONE);
        DUE.is("fall(0, 0)", x.fall(0, 0), Due.NONE);
        DUE.throwsOutOfBounds("kind(0)", () -> x.kind(0));
        DUE.throwsOutOfBounds("number(0, 0, 0)", () -> x.number(0, 0, 0));
        DUE.throwsOutOfBounds("leans(0)", () -> x.leans(0));
        DUE.throwsOutOfBounds("stated(0)", () -> x.stated(0));
        DUE.throwsOutOfBounds("same(0, 0)", () -> x.same(0, 0));
        DUE.throwsOutOfBounds("write(0)", () -> x.write(0));
    }

    private static void nothingMoved() {
        FigureTexts x = Due.run("times 12{draw free(3,4);}");
        for (int k = 0; k < 12; k++) {
            DUE.is("x of FREE " + k, x.number(k, 0, 0), 3);
            DUE.is("y of FREE " + k, x.number(k, 1, 0), 4);
            DUE.is("loose(" + k + ")", x.loose(k), 0);
        }
    }

    private static void nothingInCommon() {
        FigureTexts one = Due.run("draw free(1,2);state 1;");
        FigureTexts two = new FigureTexts();
        one.move(0, 5, 5, 1);
        one.sweep(0, 1, 1, 1, 0);
        one.print();
        Due.feed(one, "draw");
        DUE.is("count(7) of another one", two.count(7), 0);
        DUE.is("count(8) of another one", two.count(8), 0);
        DUE.is("run() of another one", two.run(), Due.STATE);
        DUE.is("swept(0) of another one", two.swept(0), Due.NONE);
        Due.feed(two, "draw free(3,4);");
        two.read();
        two.run();
        DUE.is("DRAWN by another one", Due.drawn(two), "(3, 4)");
        one.run();
        DUE.is("DRAWN by the first one", Due.drawn(one), "(5, 5)");
    }
}
