/** Promise 13: leans, and what section 4 says of LEANS. */
public final class Promise13LeansTest {
    private static final Due DUE = new Due("Promise 13, leans");

    public static void main(String[] args) {
        DUE.holds("of NUMBERS in the text none", () -> leans("7", 0));
        DUE.holds("bits, one for each FREE on which it hangs", Promise13LeansTest::frees);
        DUE.holds("those of all arguments of the TOOL", Promise13LeansTest::tools);
        DUE.holds("of both sides of a sign", Promise13LeansTest::signs);
        DUE.holds("of what a - of one is of", Promise13LeansTest::minus);
        DUE.holds("of a THING from a NAME, a ROW, a macro its own", Promise13LeansTest::itsOwn);
        DUE.holds("a ROW has none", Promise13LeansTest::rows);
        DUE.holds("all twelve bits", Promise13LeansTest::allTwelve);
        DUE.holds("a FREE LEANS on itself and, if it is not MOVED, on u, v", Promise13LeansTest::moved);
        DUE.holds("IndexOutOfBounds: i", Promise13LeansTest::outOfBounds);
        DUE.end();
    }

    private static void leans(String exp, int bits) {
        FigureTexts x = Due.run("a=free(1,2);b=free(4,6);c=free(x(a),0);w=row(2);w[0]=b;l=line(a,b);s=seg(b,point(0,0));o=point(0,0);"
            + "e=round(b,9);draw " + exp + ";");
        DUE.is("FALLS of " + exp, Due.falls(x), "");
        DUE.is("leans of " + exp, x.leans(0), bits);
    }

    private static void frees() {
        leans("a", 1);
        leans("b", 2);
        leans("c", 5);
        leans("free(1,1)", 8);
        leans("free(x(b),1)", 10);
        leans("free(1,y(b))", 10);
        leans("free(x(c),y(b))", 15);
    }

    /** Every TOOL, each argument hanging on another FREE. */
    private static void tools() {
        leans("x(b)", 2);
        leans("y(b)", 2);
        leans("slope(l)", 3);
        leans("centre(e)", 2);
        leans("square(e)", 2);
        leans("half(s)", 2);
        leans("size(w)", 0);
        leans("none(b)", 2);
        leans("none(w[1])", 0);
        leans("kind(b)", 2);
        leans("point(x(a),y(b))", 3);
        leans("line(c,b)", 7);
        leans("seg(c,b)", 7);
        leans("mid(c,b)", 7);
        leans("foot(c,s)", 7);
        leans("mirror(c,s)", 7);
        leans("turn(c,b)", 7);
        leans("par(c,s)", 7);
        leans("perp(c,s)", 7);
        leans("meet(s,line(a,o))", 3);
        leans("circle(c,b)", 7);
        leans("round(o,x(b))", 2);
        leans("round(a,x(b))", 3);
        leans("power(a,e)", 3);
        leans("polar(a,e)", 3);
        leans("invert(a,e)", 3);
        leans("dist(c,b)", 7);
        leans("end(s,x(a))", 3);
        leans("on(a,s)", 3);
        leans("is(a,b)", 3);
        leans("flat(line(a,o),s)", 3);
        leans("right(line(a,o),s)", 3);
        leans("scale(o,o,x(b))", 2);
        leans("scale(c,b,1)", 7);
        leans("scale(o,b,x(a))", 3);
        leans("ring(a,b,point(9,9))", 3);
        leans("ring(o,point(1,1),b)", 2);
        leans("area(o,o,b)", 2);
        leans("area(a,o,b)", 3);
        leans("cut(line(b,point(5,6)),e,x(a))", 3);
        leans("cut(line(point(4,6),point(5,6)),e,0)", 2);
    }

    private static void signs() {
        for (String sign : new String[] {"+", "-", "*", "/", "=", "<"}) {
            leans("x(a)" + sign + "x(b)", 3);
            leans("1" + sign + "x(b)", 2);
            leans("x(b)" + sign + "1", 2);
        }
        leans("0*x(b)", 2);
    }

    private static void minus() {
        leans("-y(b)", 2);
        leans("--y(c)", 5);
        leans("-1", 0);
    }

    private static void itsOwn() {
        leans("w[0]", 2);
        leans("w[x(a)-1]", 2);
        FigureTexts x = Due.run("macro f(p,q){give p;}a=free(1,1);b=free(2,2);draw f(a,b);if x(b){d=3;}draw d;e=b;draw e;");
        DUE.is("leans of what a macro gives", x.leans(0), 1);
        DUE.is("leans of what is behind an if", x.leans(1), 0);
        DUE.is("leans of what is from a NAME", x.leans(2), 2);
    }

    private static void rows() {
        leans("w", 0);
        leans("row(x(a))", 0);
        leans("numbers(x(b))", 0);
        leans("kind(w)", 0);
        leans("is(w,w)", 0);
        leans("is(w,b)", 2);
    }

    private static void allTwelve() {
        FigureTexts x = Due.run("s=0;times 12{f=free(1,1);draw f;s=s+x(f);}draw s;");
        for (int k = 0; k < 12; k++) {
            DUE.is("leans of FREE " + k, x.leans(k), 1 << k);
        }
        DUE.is("leans of their sum", x.leans(12), 4095);
    }

    private static void moved() {
        FigureTexts x = Due.run("a=free(1,2);b=free(x(a),3);draw b;draw y(b);");
        DUE.is("leans", x.leans(0), 3);
        x.move(1, 5, 5, 1);
        x.run();
        DUE.is("leans of a MOVED one", x.leans(0), 2);
        DUE.is("leans of what hangs on it", x.leans(1), 2);
        x.loose(1);
        x.move(0, 5, 5, 1);
        x.run();
        DUE.is("leans of one that hangs on a MOVED one", x.leans(0), 3);
    }

    private static void outOfBounds() {
        FigureTexts x = Due.run("draw free(1,2);draw 2;");
        for (int i : new int[] {-1, 2, 40, Integer.MIN_VALUE, Integer.MAX_VALUE}) {
            DUE.throwsOutOfBounds("leans(" + i + ")", () -> x.leans(i));
        }
        FigureTexts full = Due.run("times 40{draw 1;}");
        DUE.is("leans(39) of 40", full.leans(39), 0);
        DUE.throwsOutOfBounds("leans(40) of 40", () -> full.leans(40));
        DUE.throwsOutOfBounds("leans(0) before a RUN", () -> Due.read("draw 1;").leans(0));
    }
}
