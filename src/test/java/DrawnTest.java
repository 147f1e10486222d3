/** Promises 11 (kind), 12 (number), 16 (same), 18 (write), 19 (out). */
public final class DrawnTest {
    private static final Due DUE = new Due("DrawnTest");
    /** One of each KIND, in order, and a second ROW, a LINE like the SEGMENT, a POINT like the FREE. */
    private static final String ALL = "draw -5/3;draw point(1/2,-3);draw free(7,8/9);l=line(point(0,0),point(2,4));draw l;"
        + "draw seg(point(0,0),point(1,2));draw round(point(1,-2),9/4);w=lines(12);draw w;draw w;draw lines(12);draw point(7,8/9);draw -10/6;";

    public static void main(String[] args) {
        kinds();
        numbers();
        numbersOutside();
        same();
        write();
        out();
        DUE.end();
    }

    private static void kinds() {
        FigureTexts x = Due.run(ALL);
        int[] due = {0, 1, 2, 3, 4, 5, 6, 6, 6, 1, 0};
        DUE.is("DRAWN", x.count(0), due.length);
        for (int i = 0; i < due.length; i++) {
            DUE.is("kind(" + i + ")", x.kind(i), due[i]);
        }
        DUE.isOutOfBounds("kind(11)", () -> x.kind(11));
        DUE.isOutOfBounds("kind(-1)", () -> x.kind(-1));
        DUE.isOutOfBounds("kind(least)", () -> x.kind(Integer.MIN_VALUE));
    }

    private static void numbers() {
        FigureTexts x = Due.run(ALL);
        long[][] due = {{-5, 3}, {1, 2, -3, 1}, {7, 1, 8, 9}, {1, 1, -1, 2, 0, 1}, {1, 1, -1, 2, 0, 1, 0, 1, 0, 1, 1, 1, 2, 1},
            {1, 1, -2, 1, 9, 4}, {2, 1, 12, 1}};
        for (int i = 0; i < due.length; i++) {
            for (int part = 0; part < due[i].length / 2; part++) {
                DUE.is("top " + part + " of " + i, x.number(i, part, 0), due[i][2 * part]);
                DUE.is("bottom " + part + " of " + i, x.number(i, part, 1), due[i][2 * part + 1]);
            }
        }
    }

    private static void numbersOutside() {
        FigureTexts x = Due.run(ALL);
        int[] parts = {1, 2, 2, 3, 7, 3, 2};
        for (int i = 0; i < parts.length; i++) {
            int drawn = i;
            DUE.isOutOfBounds("number(" + i + ", " + parts[i] + ", 0)", () -> x.number(drawn, parts[drawn], 0));
            DUE.isOutOfBounds("number(" + i + ", -1, 0)", () -> x.number(drawn, -1, 0));
            DUE.isOutOfBounds("number(" + i + ", 0, 2)", () -> x.number(drawn, 0, 2));
            DUE.isOutOfBounds("number(" + i + ", 0, -1)", () -> x.number(drawn, 0, -1));
        }
        DUE.isOutOfBounds("number(11, 0, 0)", () -> x.number(11, 0, 0));
        DUE.isOutOfBounds("number(-1, 0, 0)", () -> x.number(-1, 0, 0));
    }

    private static void same() {
        FigureTexts x = Due.run(ALL);
        int[][] alike = {{0, 10}, {2, 9}, {3, 4}, {6, 7}};
        for (int i = 0; i < 11; i++) {
            for (int j = 0; j < 11; j++) {
                boolean due = i == j;
                for (int[] pair : alike) {
                    due |= pair[0] == i && pair[1] == j || pair[0] == j && pair[1] == i;
                }
                DUE.is("same(" + i + ", " + j + ")", x.same(i, j), due);
            }
        }
        DUE.isOutOfBounds("same(0, 11)", () -> x.same(0, 11));
        DUE.isOutOfBounds("same(11, 0)", () -> x.same(11, 0));
        DUE.isOutOfBounds("same(-1, 0)", () -> x.same(-1, 0));
        DUE.isOutOfBounds("same(0, -1)", () -> x.same(0, -1));
        FigureTexts y = Due.run("draw round(point(1,2),3);draw round(point(1,2),4);draw round(point(2,2),3);draw line(point(0,3),point(1,3));draw point(1,2);draw 1;draw 0;");
        for (int i = 0; i < 7; i++) {
            for (int j = 0; j < 7; j++) {
                DUE.is("same(" + i + ", " + j + ") of unlike ones", y.same(i, j), i == j);
            }
        }
    }

    private static void write() {
        FigureTexts x = Due.run(ALL + "draw 0;draw 999999999+1;draw -999999999/(999999999+1);");
        String[] due = {"-5/3", "(1/2, -3)", "(7, 8/9)", "[1, -1/2, 0]", "[1, -1/2, 0]", "<1, -2, 9/4>", "{12}", "{12}", "{12}", "(7, 8/9)",
            "-5/3", "0", "1000000000", "-999999999/1000000000"};
        for (int i = 0; i < due.length; i++) {
            DUE.is("write(" + i + ")", x.write(i), due[i].length());
            DUE.is("what was written of " + i, Due.out(x), due[i]);
        }
        DUE.isOutOfBounds("write(14)", () -> x.write(14));
        DUE.isOutOfBounds("write(-1)", () -> x.write(-1));
        DUE.is("THE OUT stays", Due.out(x), "-999999999/1000000000");
    }

    private static void out() {
        FigureTexts x = Due.run("draw point(1,2);");
        DUE.isOutOfBounds("out(0) of an empty OUT", () -> x.out(0));
        x.write(0);
        String due = "(1, 2)";
        for (int i = 0; i < due.length(); i++) {
            DUE.is("out(" + i + ")", x.out(i), due.charAt(i));
        }
        DUE.isOutOfBounds("out(6)", () -> x.out(6));
        DUE.isOutOfBounds("out(-1)", () -> x.out(-1));
        x.print();
        DUE.is("out(17) is the line's end", x.out(17), 10);
        x.write(0);
        DUE.isOutOfBounds("out(6) of a shorter OUT", () -> x.out(6));
    }
}
