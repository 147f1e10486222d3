/** Promises 1 (a new object), 2 (feed), 3 (cut), 20 (back) and what count tells of THE TAPE (10). */
public final class TapeTest {
    private static final Due DUE = new Due("TapeTest");

    public static void main(String[] args) {
        newObject();
        feed();
        feedWithoutRoom();
        cut();
        back();
        backWithoutRoom();
        DUE.end();
    }

    private static void newObject() {
        FigureTexts x = new FigureTexts();
        for (int what = 0; what <= 8; what++) {
            DUE.is("new: count(" + what + ")", x.count(what), 0);
        }
        DUE.is("new: place()", x.place(), FigureTexts.NONE);
        DUE.is("new: about(0)", x.about(0), FigureTexts.STATE);
        DUE.is("new: run()", x.run(), FigureTexts.STATE);
        DUE.is("new: print()", x.print(), FigureTexts.STATE);
        DUE.is("new: move()", x.move(0, 1, 1, 1), FigureTexts.STATE);
        DUE.is("new: loose()", x.loose(0), FigureTexts.STATE);
        DUE.is("new: sweep()", x.sweep(0, 1, 1, 1, 0), FigureTexts.UNKNOWN);
        DUE.is("new: swept(0)", x.swept(0), FigureTexts.NONE);
        DUE.is("new: tried()", x.tried(1, 1, 0), FigureTexts.STATE);
        DUE.is("new: fall(0, 0)", x.fall(0, 0), FigureTexts.NONE);
        DUE.is("new: back()", x.back(), 0);
        DUE.isOutOfBounds("new: kind(0)", () -> x.kind(0));
        DUE.isOutOfBounds("new: number(0, 0, 0)", () -> x.number(0, 0, 0));
        DUE.isOutOfBounds("new: leans(0)", () -> x.leans(0));
        DUE.isOutOfBounds("new: stated(0)", () -> x.stated(0));
        DUE.isOutOfBounds("new: same(0, 0)", () -> x.same(0, 0));
        DUE.isOutOfBounds("new: write(0)", () -> x.write(0));
        DUE.isOutOfBounds("new: out(0)", () -> x.out(0));
        DUE.is("new: runs", x.count(6), 0);
        DUE.is("new: read()", x.read(), 0);
        DUE.is("an empty figure: run()", x.run(), 0);
        DUE.is("an empty figure: print()", x.print(), 0);
        DUE.is("an empty figure: about(2)", x.about(2), 0);
    }

    /** The bytes' order is seen in the figure that is read. */
    private static void feed() {
        FigureTexts x = new FigureTexts();
        int drawBlank = 'd' << 24 | 'r' << 16 | 'a' << 8 | 'w';
        int digits = ' ' << 24 | '1' << 16 | '2' << 8 | '3';
        int more = '4' << 24 | '5' << 16 | '6' << 8 | '7';
        int last = '8' << 24 | ' ' << 16 | ';' << 8 | ' ';
        DUE.is("feed", x.feed(drawBlank, digits, more, last, 10 << 24 | 10 << 16 | 32 << 8 | 10), 20);
        DUE.is("feed: bytes", x.count(7), 20);
        DUE.is("feed: read()", x.read(), 2);
        DUE.is("feed: THE TAPE is empty then", x.count(7), 0);
        x.run();
        DUE.is("feed: the number", x.number(0, 0, 0), 12345678);
        DUE.is("feed of high bytes", x.feed(-1, -2147483648, 2147483647, 0, 1), 20);
        DUE.is("feed again", x.feed(-1, -2147483648, 2147483647, 0, 1), 40);
        DUE.is("a byte 255 is no TOKEN", x.read(), -1);
        DUE.is("its place", x.place(), 0);
    }

    private static void feedWithoutRoom() {
        FigureTexts x = new FigureTexts();
        int blanks = 0x20202020;
        for (int i = 1; i <= 150; i++) {
            DUE.is("feed " + i, x.feed(blanks, blanks, blanks, blanks, blanks), 20 * i);
        }
        DUE.is("feed without room", x.feed(1, 1, 1, 1, 1), FigureTexts.STATE);
        DUE.is("nothing was fed", x.count(7), 3000);
        x.cut(2981);
        DUE.is("feed with 19 bytes of room", x.feed(1, 1, 1, 1, 1), FigureTexts.STATE);
        DUE.is("nothing was fed", x.count(7), 2981);
        x.cut(2980);
        DUE.is("feed with 20 bytes of room", x.feed(blanks, blanks, blanks, blanks, blanks), 3000);
        DUE.is("3000 blanks are a figure", x.read(), 0);
    }

    private static void cut() {
        FigureTexts x = new FigureTexts();
        DUE.is("cut(0) of nothing", x.cut(0), 0);
        DUE.is("cut(1) of nothing", x.cut(1), FigureTexts.OUTSIDE);
        Due.feed(x, "draw 1; draw 2; draw");
        DUE.is("cut(-1)", x.cut(-1), FigureTexts.OUTSIDE);
        DUE.is("cut(21)", x.cut(21), FigureTexts.OUTSIDE);
        DUE.is("cut(least)", x.cut(Integer.MIN_VALUE), FigureTexts.OUTSIDE);
        DUE.is("nothing was cut", x.count(7), 20);
        DUE.is("cut(20)", x.cut(20), 0);
        DUE.is("cut(8)", x.cut(8), 12);
        DUE.is("cut: bytes", x.count(7), 8);
        Due.feed(x, "draw 3;");
        DUE.is("cut: behind the first bytes", x.read(), 4);
        x.run();
        DUE.is("cut: drawn", Due.drawn(x), "1 3");
        Due.feed(x, "draw 1;");
        DUE.is("cut(0)", x.cut(0), 7);
        DUE.is("cut: nothing is left", x.read(), 0);
    }

    private static void back() {
        FigureTexts x = Due.read("a=1;draw a;");
        x.print();
        Due.feed(x, "this goes");
        DUE.is("back()", x.back(), 15);
        DUE.is("back: THE TAPE", x.count(7), 15);
        DUE.is("back: THE OUT stays", Due.out(x), "a = 1;\ndraw a;\n");
        DUE.is("back: read()", x.read(), 4);
        x.run();
        DUE.is("back: drawn", Due.drawn(x), "1");
        DUE.is("back: what was written", x.back(), 1);
        DUE.is("back: a number alone is no figure", x.read(), -2);
        DUE.is("back of THE OUT again", x.back(), 1);
        FigureTexts y = new FigureTexts();
        Due.feed(y, "draw 1;");
        DUE.is("back of an empty OUT", y.back(), 0);
        DUE.is("it empties THE TAPE", y.count(7), 0);
    }

    /** Short lines deep in blocks, with 20 blanks ahead of each; headers and ends of the blocks have 270 bytes. */
    private static void backWithoutRoom() {
        String begin = Due.times(10, "if 1{");
        String end = Due.times(10, "}");
        FigureTexts x = Due.read(begin + Due.times(95, "draw 1;") + "draw 12345678;draw 12345678;" + end);
        DUE.is("print() of 3000 bytes", x.print(), 3000);
        DUE.is("back() of 3000 bytes", x.back(), 3000);
        DUE.is("read() of 3000 bytes", x.read(), 2 * 107);
        FigureTexts y = Due.read(begin + Due.times(95, "draw 1;") + "draw 12345678;draw 123456789;" + end);
        DUE.is("print() of 3001 bytes", y.print(), 3001);
        Due.feed(y, "draw 1;");
        DUE.is("back() of 3001 bytes", y.back(), FigureTexts.STATE);
        DUE.is("THE TAPE stays", y.count(7), 7);
        DUE.is("THE OUT stays", y.count(8), 3001);
        FigureTexts z = Due.read(begin + Due.times(115, "draw 1;") + end);
        DUE.is("print() of 250 NODES", z.print(), 270 + 115 * 28);
    }
}
