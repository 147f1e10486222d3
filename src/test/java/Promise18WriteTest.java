/** Promise 18: write. */
public final class Promise18WriteTest {
    private static final Due DUE = new Due("Promise 18, write");

    public static void main(String[] args) {
        DUE.holds("a FRACTION as top, or top/bottom where that is not 1", Promise18WriteTest::fractions);
        DUE.holds("a POINT, FREE (x, y)", Promise18WriteTest::points);
        DUE.holds("a LINE, SEGMENT [a, b, c]", Promise18WriteTest::lines);
        DUE.holds("a CIRCLE <x, y, s>", Promise18WriteTest::circles);
        DUE.holds("a ROW {n}, n being its places", Promise18WriteTest::rows);
        DUE.holds("the longest one", Promise18WriteTest::longest);
        DUE.holds("THE OUT becomes DRAWN THING i, in place of what it was", Promise18WriteTest::inPlace);
        DUE.holds("IndexOutOfBounds: i", Promise18WriteTest::outOfBounds);
        DUE.end();
    }

    private static void writes(String exp, String due) {
        FigureTexts x = Due.run("g=999999999+1;o=point(0,0);draw " + exp + ";");
        DUE.is("write() of " + exp, x.write(0), due.length());
        DUE.is("what is WRITTEN of " + exp, Due.out(x), due);
    }

    private static void fractions() {
        writes("0", "0");
        writes("7", "7");
        writes("-7", "-7");
        writes("10", "10");
        writes("4/2", "2");
        writes("1/2", "1/2");
        writes("-6/4", "-3/2");
        writes("1/-2", "-1/2");
        writes("g", "1000000000");
        writes("-g", "-1000000000");
        writes("-1/g", "-1/1000000000");
        writes("999999999/g", "999999999/1000000000");
    }

    private static void points() {
        writes("point(0,0)", "(0, 0)");
        writes("point(1/2,-3)", "(1/2, -3)");
        writes("free(-4/3,5)", "(-4/3, 5)");
    }

    private static void lines() {
        writes("line(o,point(1,2))", "[1, -1/2, 0]");
        writes("seg(o,point(1,2))", "[1, -1/2, 0]");
        writes("line(point(0,3),point(1,3))", "[0, 1, 3]");
        writes("line(point(-5/2,0),point(-5/2,1))", "[1, 0, -5/2]");
    }

    private static void circles() {
        writes("round(o,0)", "<0, 0, 0>");
        writes("round(point(1,-2/3),9/4)", "<1, -2/3, 9/4>");
    }

    private static void rows() {
        writes("row(0)", "{0}");
        writes("points(9)", "{9}");
        writes("lines(10)", "{10}");
        writes("numbers(20)", "{20}");
    }

    private static void longest() {
        String fraction = "-999999999/1000000000";
        writes("point(-999999999/g,-999999999/g)", "(" + fraction + ", " + fraction + ")");
        writes("round(point(-999999999/g,-999999999/g),999999999/g)", "<" + fraction + ", " + fraction + ", 999999999/1000000000>");
    }

    private static void inPlace() {
        FigureTexts x = Due.run("draw point(1,2);draw 7;");
        x.write(0);
        DUE.is("THE OUT", Due.out(x), "(1, 2)");
        x.write(1);
        DUE.is("THE OUT", Due.out(x), "7");
        DUE.is("count(8)", x.count(8), 1);
        x.print();
        x.write(0);
        DUE.is("THE OUT behind print()", Due.out(x), "(1, 2)");
    }

    private static void outOfBounds() {
        FigureTexts x = Due.run("draw 1;draw point(3,4);");
        x.write(1);
        for (int i : new int[] {-1, 2, 40, Integer.MIN_VALUE, Integer.MAX_VALUE}) {
            DUE.throwsOutOfBounds("write(" + i + ")", () -> x.write(i));
            DUE.is("THE OUT is as it was", Due.out(x), "(3, 4)");
        }
        FigureTexts full = Due.run("times 40{draw 5;}");
        DUE.is("write(39) of 40", full.write(39), 1);
        DUE.throwsOutOfBounds("write(40) of 40", () -> full.write(40));
        DUE.throwsOutOfBounds("write(0) before a RUN", () -> Due.read("draw 1;").write(0));
    }
}
