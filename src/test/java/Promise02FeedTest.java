/** Promise 2: feed. */
public final class Promise02FeedTest {
    private static final int BLANKS = 0x20202020;
    private static final Due DUE = new Due("Promise 2, feed");

    public static void main(String[] args) {
        DUE.holds("Twenty bytes come", Promise02FeedTest::twentyBytes);
        DUE.holds("behind THE TAPE", Promise02FeedTest::behindTheTape);
        DUE.holds("each number's highest one first", Promise02FeedTest::highestFirst);
        DUE.holds("bytes of every number, also those above 127", Promise02FeedTest::allBytes);
        DUE.holds("how many it has", Promise02FeedTest::howMany);
        DUE.holds("STATE: no room (THE TAPE has 3000 bytes at most)", Promise02FeedTest::noRoom);
        DUE.holds("STATE: room for 19 bytes, not for 20", Promise02FeedTest::roomForNineteen);
        DUE.holds("room again behind cut(), read(), back()", Promise02FeedTest::roomAgain);
        DUE.end();
    }

    private static int feedBlanks(FigureTexts x) {
        return x.feed(BLANKS, BLANKS, BLANKS, BLANKS, BLANKS);
    }

    /** Blanks, and at one place a byte that is no TOKEN: the FAULT tells where it came to lie. */
    private static int feedMark(FigureTexts x, int at, int mark) {
        int[] fours = new int[5];
        for (int i = 0; i < 20; i++) {
            fours[i / 4] = fours[i / 4] << 8 | (i == at ? mark : 32);
        }
        return x.feed(fours[0], fours[1], fours[2], fours[3], fours[4]);
    }

    private static void twentyBytes() {
        FigureTexts x = new FigureTexts();
        DUE.is("feed()", x.feed(Due.four("draw", 0), Due.four(" 123", 0), Due.four("4567", 0), Due.four("8 ; ", 0), 0x0a0a200a), 20);
        DUE.is("count(7)", x.count(7), 20);
        DUE.is("read()", x.read(), 2);
        x.run();
        DUE.is("the number", x.number(0, 0, 0), 12345678);
    }

    private static void behindTheTape() {
        FigureTexts x = new FigureTexts();
        feedBlanks(x);
        feedMark(x, 7, '$');
        feedBlanks(x);
        DUE.is("read()", x.read(), -1);
        DUE.is("place()", x.place(), 27);
    }

    private static void highestFirst() {
        for (int at = 0; at < 20; at++) {
            FigureTexts x = new FigureTexts();
            DUE.is("feed() of a mark at " + at, feedMark(x, at, 200), 20);
            DUE.is("read() of a mark at " + at, x.read(), -1);
            DUE.is("place() of a mark at " + at, x.place(), at);
        }
    }

    private static void allBytes() {
        FigureTexts x = new FigureTexts();
        DUE.is("feed() of edges", x.feed(-1, Integer.MIN_VALUE, Integer.MAX_VALUE, 0, 1), 20);
        DUE.is("a byte 255 is no TOKEN", x.read(), -1);
        DUE.is("its place", x.place(), 0);
        FigureTexts y = new FigureTexts();
        y.feed(BLANKS, Integer.MIN_VALUE, BLANKS, BLANKS, BLANKS);
        DUE.is("a byte 128 is no TOKEN", y.read(), -1);
        DUE.is("its place", y.place(), 4);
        FigureTexts z = new FigureTexts();
        z.feed(BLANKS, BLANKS, 0x20200020, BLANKS, BLANKS);
        DUE.is("a byte 0 is no TOKEN", z.read(), -1);
        DUE.is("its place", z.place(), 10);
    }

    private static void howMany() {
        FigureTexts x = new FigureTexts();
        DUE.is("the first", feedBlanks(x), 20);
        DUE.is("the second", feedBlanks(x), 40);
        x.cut(13);
        DUE.is("behind cut(13)", feedBlanks(x), 33);
        DUE.is("count(7)", x.count(7), 33);
    }

    private static void noRoom() {
        FigureTexts x = new FigureTexts();
        for (int i = 1; i < 150; i++) {
            DUE.is("feed " + i, feedBlanks(x), 20 * i);
        }
        DUE.is("the 150th", feedMark(x, 19, '$'), 3000);
        DUE.refuses(x, "the 151st", () -> x.feed(1, 1, 1, 1, 1), Due.STATE);
        DUE.is("read() of 3000 bytes", x.read(), -1);
        DUE.is("the last byte is as it was", x.place(), 2999);
    }

    private static void roomForNineteen() {
        FigureTexts x = new FigureTexts();
        for (int i = 0; i < 150; i++) {
            feedBlanks(x);
        }
        x.cut(2981);
        DUE.refuses(x, "feed() with room for 19", () -> x.feed(1, 1, 1, 1, 1), Due.STATE);
        x.cut(2980);
        DUE.is("feed() with room for 20", feedMark(x, 19, '$'), 3000);
        DUE.is("read()", x.read(), -1);
        DUE.is("place()", x.place(), 2999);
    }

    private static void roomAgain() {
        FigureTexts x = new FigureTexts();
        for (int i = 0; i < 150; i++) {
            feedBlanks(x);
        }
        x.cut(0);
        DUE.is("behind cut(0)", feedBlanks(x), 20);
        for (int i = 0; i < 149; i++) {
            feedBlanks(x);
        }
        DUE.is("read() of 3000 blanks", x.read(), 0);
        DUE.is("behind read()", feedBlanks(x), 20);
        for (int i = 0; i < 149; i++) {
            feedBlanks(x);
        }
        DUE.is("full", feedBlanks(x), Due.STATE);
        DUE.is("back()", x.back(), 0);
        DUE.is("behind back() of nothing", feedBlanks(x), 20);
    }
}
