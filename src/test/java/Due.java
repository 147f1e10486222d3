/**
 * Keeps count of the answers that are not as due, each told with the sentence of the document that it breaks, and brings
 * texts into objects of FigureTexts.
 */
final class Due {
    static final int NONE = FigureTexts.NONE, UNKNOWN = FigureTexts.UNKNOWN, OUTSIDE = FigureTexts.OUTSIDE;
    static final int STATE = FigureTexts.STATE, SPENT = FigureTexts.SPENT;
    static final int NOTHING = 1, CAST = 2, INDEX = 3, SIZE = 4, STORE = 5, ZERO = 6, LOST = 7, ABSENT = 8, ROOM = 9;

    private final String about;
    private String sentence = "";
    private int sentences = 0;
    private int asked = 0;
    private int wrong = 0;

    Due(String about) {
        this.about = about;
    }

    /** A sentence of the document, or a case that it names, with the test of it. */
    void holds(String words, Runnable test) {
        sentence = words;
        sentences++;
        int before = asked;
        try {
            test.run();
        } catch (RuntimeException thrown) {
            tell("a call", "throws " + thrown, "no exception");
        }
        if (asked == before) {
            tell("the test", "asks nothing", "a question");
        }
    }

    void is(String call, long got, long want) {
        asked++;
        if (got != want) {
            tell(call, String.valueOf(got), String.valueOf(want));
        }
    }

    void is(String call, boolean got, boolean want) {
        is(call, got ? 1 : 0, want ? 1 : 0);
    }

    void is(String call, String got, String want) {
        asked++;
        if (!got.equals(want)) {
            tell(call, got, want);
        }
    }

    /** The call throws IndexOutOfBoundsException itself, none of the classes below it, which the machine throws. */
    void throwsOutOfBounds(String call, Runnable run) {
        String got = "nothing";
        try {
            run.run();
        } catch (RuntimeException thrown) {
            got = thrown.getClass().getName();
        }
        is("what " + call + " throws", got, IndexOutOfBoundsException.class.getName());
    }

    private void tell(String call, String got, String want) {
        wrong++;
        System.out.println(about + ", \"" + sentence + "\": " + call + " answered " + got + ", due is " + want);
    }

    void end() {
        if (wrong != 0 || sentences == 0) {
            System.out.println(about + ": " + wrong + " answers are not as due");
            System.exit(1);
        }
        System.out.println(about + ": " + sentences + " sentences hold, " + asked + " answers");
    }

    /** Lays the text behind THE TAPE. */
    static void feed(FigureTexts x, String text) {
        int before = x.count(7);
        StringBuilder padded = new StringBuilder(text);
        while (padded.length() % 20 != 0) {
            padded.append(' ');
        }
        for (int i = 0; i < padded.length(); i += 20) {
            x.feed(four(padded, i), four(padded, i + 4), four(padded, i + 8), four(padded, i + 12), four(padded, i + 16));
        }
        x.cut(before + text.length());
    }

    static int four(CharSequence text, int from) {
        int number = 0;
        for (int i = from; i < from + 4; i++) {
            number = number << 8 | text.charAt(i) & 255;
        }
        return number;
    }

    /** A new object that has read the text. */
    static FigureTexts read(String text) {
        FigureTexts x = new FigureTexts();
        feed(x, text);
        x.read();
        return x;
    }

    /** A new object that has read the text and run it. */
    static FigureTexts run(String text) {
        FigureTexts x = read(text);
        x.run();
        return x;
    }

    /** The text is a FIGURE of so many NODES. */
    void reads(String text, int nodes) {
        FigureTexts x = new FigureTexts();
        feed(x, text);
        is("read() of " + text, x.read(), nodes);
        is("place() of " + text, x.place(), NONE);
    }

    /** The text has that FAULT at that byte. */
    void faults(String text, int fault, int place) {
        FigureTexts x = new FigureTexts();
        feed(x, text);
        is("read() of " + text, x.read(), -fault);
        is("place() of " + text, x.place(), place);
    }

    /** A RUN of the text, not SPENT, has these DRAWN, STATED and FALLS. */
    void does(String text, String drawn, String stated, String falls) {
        FigureTexts x = read(text);
        is("place() of " + text, x.place(), NONE);
        is("run() of " + text, x.run(), x.count(0));
        is("DRAWN by " + text, drawn(x), drawn);
        is("STATED by " + text, stated(x), stated);
        is("FALLS of " + text, falls(x), falls);
    }

    static String fall(int failure, int at) {
        return failure + "@" + at;
    }

    static String out(FigureTexts x) {
        StringBuilder text = new StringBuilder();
        for (int i = 0; i < x.count(8); i++) {
            text.append((char) x.out(i));
        }
        return text.toString();
    }

    static String written(FigureTexts x, int i) {
        x.write(i);
        return out(x);
    }

    static String printed(FigureTexts x) {
        x.print();
        return out(x);
    }

    /** All FALLS, as failure@byte with blanks between. */
    static String falls(FigureTexts x) {
        StringBuilder text = new StringBuilder();
        for (int i = 0; i < x.count(2); i++) {
            text.append(i > 0 ? " " : "").append(fall(x.fall(i, 0), x.fall(i, 1)));
        }
        return text.toString();
    }

    /** All STATED, with blanks between. */
    static String stated(FigureTexts x) {
        StringBuilder text = new StringBuilder();
        for (int i = 0; i < x.count(1); i++) {
            text.append(i > 0 ? " " : "").append(x.stated(i));
        }
        return text.toString();
    }

    /** All DRAWN THINGS, WRITTEN, with blanks between. */
    static String drawn(FigureTexts x) {
        StringBuilder text = new StringBuilder();
        for (int i = 0; i < x.count(0); i++) {
            text.append(i > 0 ? " " : "").append(written(x, i));
        }
        return text.toString();
    }

    /** What can be seen of an object without a call that may change it. */
    static String seen(FigureTexts x) {
        return seenButPlace(x) + " " + x.place();
    }

    /** Few calls, as an object has 512. */
    static String seenButPlace(FigureTexts x) {
        StringBuilder text = new StringBuilder();
        int[] counts = new int[9];
        for (int what = 0; what < counts.length; what++) {
            counts[what] = x.count(what);
            text.append(counts[what]).append(' ');
        }
        text.append(x.about(1)).append(' ').append(x.swept(0)).append(' ').append(x.swept(1)).append(' ');
        if (counts[0] > 0) {
            int last = counts[0] - 1;
            text.append(x.kind(last)).append(':').append(x.number(last, 0, 0)).append('/').append(x.number(last, 0, 1)).append(' ');
        }
        text.append(counts[1] > 0 ? x.stated(counts[1] - 1) : "").append(' ');
        text.append(counts[2] > 0 ? x.fall(counts[2] - 1, 0) : "").append(' ');
        text.append(counts[8] > 0 ? x.out(counts[8] - 1) : "");
        return text.toString();
    }

    /** The call is refused with that answer, and nothing that can be seen has changed. */
    void refuses(FigureTexts x, String call, java.util.function.IntSupplier run, int answer) {
        String before = seen(x);
        is(call, run.getAsInt(), answer);
        is("what is seen behind " + call, seen(x), before);
    }

    static String times(int n, String text) {
        return text.repeat(n);
    }

    /** a=1; b=1; and so on. */
    static String names(int many) {
        StringBuilder text = new StringBuilder();
        for (int i = 0; i < many; i++) {
            text.append((char) ('a' + i)).append("=1;");
        }
        return text.toString();
    }

    /** Macros ma, mb and so on, each with that behind its NAME; 8 bytes and that each. */
    static String macros(int many, String behind) {
        StringBuilder text = new StringBuilder();
        for (int i = 0; i < many; i++) {
            text.append("macro m").append((char) ('a' + i)).append(behind);
        }
        return text.toString();
    }
}
