/** Promise 12: number. */
public final class Promise12NumberTest {
    private static final Due DUE = new Due("Promise 12, number");
    /** One of each KIND, in order. */
    private static final String ALL = "draw -5/3;draw point(1/2,-3);draw free(7,8/9);draw line(point(0,0),point(2,4));"
        + "draw seg(point(1/2,3),point(4,-5));draw round(point(1,-2),9/4);draw lines(12);";
    private static final long[][] PARTS = {{-5, 3}, {1, 2, -3, 1}, {7, 1, 8, 9}, {1, 1, -1, 2, 0, 1},
        {1, 1, 7, 16, 29, 16, 1, 2, 3, 1, 4, 1, -5, 1}, {1, 1, -2, 1, 9, 4}, {2, 1, 12, 1}};

    public static void main(String[] args) {
        String[] kinds = {"of a NUMBER it (part 0)", "of a POINT x, y (0, 1)", "of a FREE likewise", "of a LINE a, b, c (0 .. 2)",
            "of a SEGMENT also x, y of its first end, of its second (3 .. 6)", "of a CIRCLE x, y, s (0 .. 2)",
            "of a ROW SORT, places (0, 1; bottoms are 1)"};
        for (int i = 0; i < kinds.length; i++) {
            int drawn = i;
            DUE.holds(kinds[i], () -> parts(drawn));
            DUE.holds(kinds[i] + " IndexOutOfBounds: part", () -> outsidePart(drawn));
        }
        DUE.holds("of a ROW SORT 0 .. 3, places 0 .. 20", Promise12NumberTest::rows);
        DUE.holds("its top (side 0), its bottom (1), up to 1000000000", Promise12NumberTest::greatest);
        DUE.holds("IndexOutOfBounds: side", Promise12NumberTest::outsideSide);
        DUE.holds("IndexOutOfBounds: i", Promise12NumberTest::outsideI);
        DUE.end();
    }

    private static void parts(int i) {
        FigureTexts x = Due.run(ALL);
        for (int part = 0; part < PARTS[i].length / 2; part++) {
            DUE.is("number(" + i + ", " + part + ", 0)", x.number(i, part, 0), PARTS[i][2 * part]);
            DUE.is("number(" + i + ", " + part + ", 1)", x.number(i, part, 1), PARTS[i][2 * part + 1]);
        }
    }

    private static void outsidePart(int i) {
        FigureTexts x = Due.run(ALL);
        for (int part : new int[] {-1, PARTS[i].length / 2, 7, Integer.MIN_VALUE, Integer.MAX_VALUE}) {
            DUE.throwsOutOfBounds("number(" + i + ", " + part + ", 0)", () -> x.number(i, part, 0));
            DUE.throwsOutOfBounds("number(" + i + ", " + part + ", 1)", () -> x.number(i, part, 1));
        }
    }

    private static void rows() {
        String[] tools = {"row", "points", "lines", "numbers"};
        for (int sort = 0; sort < 4; sort++) {
            FigureTexts x = Due.run("draw " + tools[sort] + "(0);draw " + tools[sort] + "(20);");
            for (int i = 0; i < 2; i++) {
                DUE.is("SORT of " + tools[sort], x.number(i, 0, 0), sort);
                DUE.is("its bottom", x.number(i, 0, 1), 1);
                DUE.is("places of " + tools[sort], x.number(i, 1, 0), 20 * i);
                DUE.is("its bottom", x.number(i, 1, 1), 1);
            }
        }
    }

    private static void greatest() {
        FigureTexts x = Due.run("g=999999999+1;draw g;draw -g;draw 1/g;draw -1/g;draw 0/g;draw 999999999/g;");
        long[] due = {1000000000, 1, -1000000000, 1, 1, 1000000000, -1, 1000000000, 0, 1, 999999999, 1000000000};
        for (int i = 0; i < due.length; i++) {
            DUE.is("number(" + i / 2 + ", 0, " + i % 2 + ")", x.number(i / 2, 0, i % 2), due[i]);
        }
    }

    private static void outsideSide() {
        FigureTexts x = Due.run(ALL);
        for (int i = 0; i < 7; i++) {
            int drawn = i;
            for (int side : new int[] {-1, 2, Integer.MIN_VALUE, Integer.MAX_VALUE}) {
                DUE.throwsOutOfBounds("number(" + i + ", 0, " + side + ")", () -> x.number(drawn, 0, side));
            }
        }
    }

    private static void outsideI() {
        FigureTexts x = Due.run(ALL);
        for (int i : new int[] {-1, 7, 40, Integer.MIN_VALUE, Integer.MAX_VALUE}) {
            DUE.throwsOutOfBounds("number(" + i + ", 0, 0)", () -> x.number(i, 0, 0));
        }
        DUE.throwsOutOfBounds("number(0, 0, 0) before a RUN", () -> Due.read(ALL).number(0, 0, 0));
        DUE.throwsOutOfBounds("number(0, 0, 0) of nothing DRAWN", () -> Due.run("state 1;").number(0, 0, 0));
    }
}
