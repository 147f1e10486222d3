/** Promises 7 (move), 8 (loose), 13 (leans), and section 5 of the document: FREES, RUNS of a life. */
public final class FreesTest {
    private static final int OUTSIDE = FigureTexts.OUTSIDE, STATE = FigureTexts.STATE, SPENT = FigureTexts.SPENT;
    private static final Due DUE = new Due("FreesTest");

    public static void main(String[] args) {
        move();
        moveOutside();
        loose();
        atMostTwelve();
        numbering();
        leans();
        leansOfMoved();
        runsOfALife();
        DUE.end();
    }

    private static void move() {
        FigureTexts x = Due.run("a=free(1,2);b=free(3,4);draw a;draw b;draw mid(a,b);");
        DUE.is("drawn", Due.drawn(x), "(1, 2) (3, 4) (2, 3)");
        DUE.is("move(1, 7, -3, 2)", x.move(1, 7, -3, 2), 1);
        DUE.is("not yet run", Due.drawn(x), "(1, 2) (3, 4) (2, 3)");
        x.run();
        DUE.is("run", Due.drawn(x), "(1, 2) (7/2, -3/2) (9/4, 1/4)");
        DUE.is("kind of a MOVED one", x.kind(1), 2);
        DUE.is("move(1, 6, 4, -2)", x.move(1, 6, 4, -2), 1);
        DUE.is("move(5, 1, 1, 1), which does not come", x.move(5, 1, 1, 1), 1);
        x.run();
        DUE.is("run", Due.drawn(x), "(1, 2) (-3, -2) (-1, 0)");
        DUE.is("move(11, ..)", x.move(11, 0, 0, 1), 1);
        DUE.is("loose(5)", x.loose(5), 1);
        DUE.is("loose(11)", x.loose(11), 1);
    }

    private static void moveOutside() {
        FigureTexts none = new FigureTexts();
        DUE.is("move without a figure", none.move(0, 1, 1, 1), STATE);
        DUE.is("move by 0 without a figure", none.move(0, 1, 1, 0), OUTSIDE);
        DUE.is("move of a LOST place without a figure", none.move(0, 2000000000, 1, 1), OUTSIDE);
        FigureTexts x = Due.run("draw free(1,2);");
        DUE.is("move(-1, ..)", x.move(-1, 1, 1, 1), OUTSIDE);
        DUE.is("move(12, ..)", x.move(12, 1, 1, 1), OUTSIDE);
        DUE.is("move by 0", x.move(0, 1, 1, 0), OUTSIDE);
        DUE.is("move to a LOST x", x.move(0, 1000000001, 1, 1), OUTSIDE);
        DUE.is("move to a LOST y", x.move(0, 1, -1000000001, 1), OUTSIDE);
        DUE.is("move by a LOST bottom", x.move(0, 1, 0, 1000000001), OUTSIDE);
        DUE.is("move to the least number", x.move(0, Integer.MIN_VALUE, 0, 1), OUTSIDE);
        DUE.is("nothing is MOVED", x.loose(0), 0);
        DUE.is("move to the greatest", x.move(0, 1000000000, -1000000000, 1), 1);
        x.run();
        DUE.is("the greatest", Due.drawn(x), "(1000000000, -1000000000)");
        DUE.is("least terms count", x.move(0, 2000000000, -2000000000, 2000000000), 1);
        x.run();
        DUE.is("least terms", Due.drawn(x), "(1, -1)");
        DUE.is("the least by the least", x.move(0, Integer.MIN_VALUE, 0, Integer.MIN_VALUE), 1);
        x.run();
        DUE.is("least terms", Due.drawn(x), "(1, 0)");
        DUE.is("1 by the greatest", x.move(0, 1, -1, 1000000000), 1);
        x.run();
        DUE.is("1 by the greatest", Due.drawn(x), "(1/1000000000, -1/1000000000)");
    }

    private static void loose() {
        DUE.is("loose without a figure", new FigureTexts().loose(0), STATE);
        DUE.is("loose(12) without a figure", new FigureTexts().loose(12), OUTSIDE);
        FigureTexts x = Due.run("draw free(1,2);");
        DUE.is("loose(-1)", x.loose(-1), OUTSIDE);
        DUE.is("loose(12)", x.loose(12), OUTSIDE);
        DUE.is("loose(0) before a move", x.loose(0), 0);
        x.move(0, 5, 6, 1);
        x.run();
        DUE.is("MOVED", Due.drawn(x), "(5, 6)");
        DUE.is("loose(0)", x.loose(0), 1);
        DUE.is("loose(0) again", x.loose(0), 0);
        x.run();
        DUE.is("not MOVED any more", Due.drawn(x), "(1, 2)");
    }

    private static void atMostTwelve() {
        FigureTexts x = Due.run("times 14{f=free(1,2);}draw none(f);");
        DUE.is("FREES", x.count(3), 12);
        DUE.is("ROOM for 12", Due.falls(x), "9@11 9@11");
        DUE.is("nothing came", Due.drawn(x), "1");
        FigureTexts y = Due.run("times 12{f=free(1,2);}f=free(1,row(1));");
        DUE.is("CAST is asked first", Due.falls(y), "2@24");
    }

    /** A free that FAILS has no number. */
    private static void numbering() {
        FigureTexts x = Due.run("a=free(1,row(1));b=free(1,1/0);c=free(2,3);draw c;");
        DUE.is("FREES", x.count(3), 1);
        DUE.is("its bit", x.leans(0), 1);
        x.move(0, 9, 9, 1);
        x.run();
        DUE.is("its place", Due.drawn(x), "(9, 9)");
    }

    private static void leaning(String exp, int bits) {
        FigureTexts x = Due.run("a=free(1,2);b=free(4,6);c=free(x(a),0);w=row(2);w[0]=b;l=line(a,b);s=seg(b,point(0,0));draw " + exp + ";");
        DUE.is("falls of " + exp, Due.falls(x), "");
        DUE.is("leans of " + exp, x.leans(0), bits);
    }

    private static void leans() {
        leaning("1", 0);
        leaning("a", 1);
        leaning("b", 2);
        leaning("c", 5);
        leaning("x(b)", 2);
        leaning("x(c)+1", 5);
        leaning("1-x(b)", 2);
        leaning("x(a)<x(b)", 3);
        leaning("-y(b)", 2);
        leaning("l", 3);
        leaning("s", 2);
        leaning("mid(c,b)", 7);
        leaning("is(a,b)", 3);
        leaning("kind(b)", 2);
        leaning("none(b)", 2);
        leaning("none(w[1])", 0);
        leaning("w", 0);
        leaning("w[0]", 2);
        leaning("w[x(a)-1]", 2);
        leaning("size(w)", 0);
        leaning("kind(w)", 0);
        leaning("row(x(a))", 0);
        leaning("point(x(a),0)", 1);
        leaning("free(y(b),1)", 10);
        leaning("scale(point(1,1),point(2,2),x(b))", 2);
        leaning("end(s,x(a))", 3);
        leaning("ring(a,b,point(9,9))", 3);
        leaning("round(point(0,0),x(b))", 2);
        leaning("centre(circle(a,point(0,0)))", 1);
        FigureTexts x = Due.run("macro f(p,q){give p;}a=free(1,1);b=free(2,2);draw f(a,b);if x(b){d=3;}draw d;draw free(1,1);"
            + "times 8{free=free(1,1);}draw free(x(b),5);draw free;");
        DUE.is("leans of what a macro gives", x.leans(0), 1);
        DUE.is("leans of what is behind an if", x.leans(1), 0);
        DUE.is("leans of the last FREE", x.leans(3), 1 << 11 | 2);
        DUE.is("leans of the one ahead of it", x.leans(4), 1 << 10);
        DUE.isOutOfBounds("leans(5)", () -> x.leans(5));
        DUE.isOutOfBounds("leans(-1)", () -> x.leans(-1));
    }

    private static void leansOfMoved() {
        FigureTexts x = Due.run("a=free(1,2);b=free(x(a),3);draw b;draw y(b);");
        DUE.is("leans", x.leans(0), 3);
        x.move(1, 5, 5, 1);
        x.run();
        DUE.is("leans of a MOVED one", x.leans(0), 2);
        DUE.is("leans of what hangs on it", x.leans(1), 2);
        x.loose(1);
        x.move(0, 5, 5, 1);
        x.run();
        DUE.is("leans of one that hangs on a MOVED one", x.leans(0), 3);
    }

    private static void runsOfALife() {
        FigureTexts x = Due.run("f=free(0,0);draw f;state 1;");
        for (int i = 0; i < 28; i++) {
            DUE.is("sweep " + i, x.sweep(0, 1, 1, 20, 0), 21);
        }
        DUE.is("RUNS", x.count(6), 589);
        DUE.is("a sweep of 12 RUNS", x.sweep(0, 1, 1, 11, 0), SPENT);
        DUE.is("12 RUNS tried", x.tried(1, 12, 0), SPENT);
        DUE.is("SWEPT stays", x.swept(20), 1);
        DUE.is("the latest RUN stays", Due.drawn(x), "(560, 560)");
        DUE.is("RUNS stay", x.count(6), 589);
        DUE.is("5 RUNS tried", x.tried(1, 5, 0), 5);
        DUE.is("a sweep of 6 RUNS", x.sweep(0, 1, 1, 5, 0), 6);
        DUE.is("RUNS", x.count(6), 600);
        DUE.is("run()", x.run(), SPENT);
        DUE.is("a sweep of 1 RUN", x.sweep(0, 1, 1, 0, 0), SPENT);
        DUE.is("1 RUN tried", x.tried(1, 1, 0), SPENT);
        DUE.is("OUTSIDE is asked first", x.tried(1, 0, 0), OUTSIDE);
        DUE.is("UNKNOWN is asked first", x.sweep(1, 1, 1, 0, 0), FigureTexts.UNKNOWN);
        DUE.is("RUNS", x.count(6), 600);
        Due.feed(x, "draw 1;");
        DUE.is("read()", x.read(), 2);
        DUE.is("RUNS stay counted", x.run(), SPENT);
        DUE.is("no RUN was done", x.count(0), 0);
        FigureTexts y = Due.run("draw free(1,1);state 0;");
        for (int i = 0; i < 29; i++) {
            y.tried(i, 20, 0);
        }
        y.tried(1, 18, 0);
        DUE.is("RUNS", y.count(6), 599);
        DUE.is("the 600th", y.run(), 1);
        DUE.is("the 601st", y.run(), SPENT);
        FigureTexts z = Due.run("draw free(1,1);state 1;");
        for (int i = 0; i < 29; i++) {
            z.tried(i, 20, 0);
        }
        DUE.is("20 RUNS more than 581", z.tried(1, 20, 0), SPENT);
        DUE.is("19 RUNS more than 581", z.tried(1, 19, 0), 19);
        DUE.is("RUNS", z.count(6), 600);
    }
}
