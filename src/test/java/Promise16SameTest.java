/** Promise 16: same. */
public final class Promise16SameTest {
    private static final Due DUE = new Due("Promise 16, same");

    public static void main(String[] args) {
        DUE.holds("Whether DRAWN THINGS i and j are as is() tells", Promise16SameTest::asIsTells);
        DUE.holds("like THINGS of unlike KINDS: POINT and FREE, LINE and SEGMENT", Promise16SameTest::unlikeKinds);
        DUE.holds("the very same ROW", Promise16SameTest::rows);
        DUE.holds("unlike in one FRACTION alone", Promise16SameTest::oneFraction);
        DUE.holds("what an earlier RUN had is not asked", Promise16SameTest::earlierRun);
        DUE.holds("IndexOutOfBounds: i, j", Promise16SameTest::outOfBounds);
        DUE.end();
    }

    private static void allPairs(FigureTexts x, int[][] alike) {
        for (int i = 0; i < x.count(0); i++) {
            for (int j = 0; j < x.count(0); j++) {
                boolean due = i == j;
                for (int[] pair : alike) {
                    due |= pair[0] == i && pair[1] == j || pair[0] == j && pair[1] == i;
                }
                DUE.is("same(" + i + ", " + j + ")", x.same(i, j), due);
            }
        }
    }

    private static void asIsTells() {
        FigureTexts x = Due.run("draw -5/3;draw point(1/2,-3);draw free(7,8/9);l=line(point(0,0),point(2,4));draw l;"
            + "draw seg(point(0,0),point(1,2));draw round(point(1,-2),9/4);w=lines(12);draw w;draw w;draw lines(12);draw point(7,8/9);draw -10/6;");
        allPairs(x, new int[][] {{0, 10}, {2, 9}, {3, 4}, {6, 7}});
    }

    private static void unlikeKinds() {
        FigureTexts x = Due.run("a=free(1,2);draw a;draw point(1,2);draw free(1,2);l=line(a,point(3,4));draw l;draw seg(a,point(3,4));"
            + "draw seg(point(3,4),a);draw seg(a,point(5,6));draw circle(a,point(2,2));draw round(a,1);");
        allPairs(x, new int[][] {{0, 1}, {0, 2}, {1, 2}, {3, 4}, {3, 5}, {3, 6}, {4, 5}, {4, 6}, {5, 6}, {7, 8}});
    }

    private static void rows() {
        FigureTexts x = Due.run("a=row(1);b=a;draw a;draw b;draw row(1);c=row(0);draw c;draw row(0);a[0]=1;draw a;draw 0;draw 1;");
        allPairs(x, new int[][] {{0, 1}, {0, 5}, {1, 5}});
    }

    private static void oneFraction() {
        allPairs(Due.run("draw 1;draw -1;draw 1/2;draw 2;draw 0;"), new int[][] {});
        allPairs(Due.run("draw point(1,2);draw point(1,3);draw point(2,2);draw point(-1,2);draw point(1,1/2);"), new int[][] {});
        allPairs(Due.run("o=point(0,0);draw line(o,point(1,1));draw line(point(0,1),point(1,2));draw line(o,point(1,2));"
            + "draw line(o,point(0,1));draw line(o,point(1,0));draw line(point(0,1),point(1,1));"), new int[][] {});
        allPairs(Due.run("draw round(point(1,2),3);draw round(point(1,2),4);draw round(point(2,2),3);draw round(point(1,1),3);"
            + "draw line(point(0,3),point(1,3));draw point(1,2);draw 1;draw 0;"), new int[][] {});
        allPairs(Due.run("draw line(point(1,0),point(1,1));draw round(point(1,0),1);"), new int[][] {});
    }

    private static void earlierRun() {
        FigureTexts x = Due.run("a=free(0,0);o=point(0,0);if x(a){draw point(5,5);draw mid(point(5,5),point(5,5));draw 4;draw 4;}"
            + "else{draw round(o,1);draw circle(o,point(3,2));draw seg(o,point(1,2));draw line(o,point(7,1));draw round(point(1,2),3);draw row(5);}");
        DUE.is("DRAWN", x.count(0), 6);
        x.move(0, 1, 1, 1);
        x.run();
        allPairs(x, new int[][] {{0, 1}, {2, 3}});
    }

    private static void outOfBounds() {
        FigureTexts x = Due.run("draw 1;draw 1;");
        DUE.is("same(0, 1)", x.same(0, 1), true);
        for (int i : new int[] {-1, 2, 40, Integer.MIN_VALUE, Integer.MAX_VALUE}) {
            String before = Due.seen(x);
            DUE.throwsOutOfBounds("same(" + i + ", 0)", () -> x.same(i, 0));
            DUE.throwsOutOfBounds("same(0, " + i + ")", () -> x.same(0, i));
            DUE.throwsOutOfBounds("same(" + i + ", " + i + ")", () -> x.same(i, i));
            DUE.is("what is seen behind it", Due.seen(x), before);
        }
        DUE.throwsOutOfBounds("same(0, 0) before a RUN", () -> Due.read("draw 1;").same(0, 0));
    }
}
