/** Keeps count of the answers that are not as due, and brings texts into objects of FigureTexts. */
final class Due {
    private final String about;
    private int wrong = 0;

    Due(String about) {
        this.about = about;
    }

    void is(String call, long got, long want) {
        if (got != want) {
            tell(call, String.valueOf(got), String.valueOf(want));
        }
    }

    void is(String call, boolean got, boolean want) {
        if (got != want) {
            tell(call, String.valueOf(got), String.valueOf(want));
        }
    }

    void is(String call, String got, String want) {
        if (!got.equals(want)) {
            tell(call, got, want);
        }
    }

    /** The call throws IndexOutOfBoundsException itself, none of the classes below it, which the machine throws. */
    void isOutOfBounds(String call, Runnable run) {
        String got = "nothing";
        try {
            run.run();
        } catch (RuntimeException thrown) {
            got = thrown.getClass().getName();
        }
        if (!got.equals(IndexOutOfBoundsException.class.getName())) {
            tell(call, "throws " + got, "throws IndexOutOfBoundsException");
        }
    }

    private void tell(String call, String got, String want) {
        wrong++;
        System.out.println(about + ": " + call + " answered " + got + ", due is " + want);
    }

    void end() {
        System.out.println(about + ": " + (wrong == 0 ? "all answers are as due" : wrong + " answers are not as due"));
        if (wrong != 0) {
            System.exit(1);
        }
    }

    /** Lays the text behind THE TAPE. */
    static void feed(FigureTexts x, String text) {
        int before = x.count(7);
        StringBuilder padded = new StringBuilder(text);
        while (padded.length() % 20 != 0) {
            padded.append(' ');
        }
        for (int i = 0; i < padded.length(); i += 20) {
            x.feed(four(padded, i), four(padded, i + 4), four(padded, i + 8), four(padded, i + 12), four(padded, i + 16));
        }
        x.cut(before + text.length());
    }

    private static int four(CharSequence text, int from) {
        int number = 0;
        for (int i = from; i < from + 4; i++) {
            number = number << 8 | text.charAt(i) & 255;
        }
        return number;
    }

    /** A new object that has read the text. */
    static FigureTexts read(String text) {
        FigureTexts x = new FigureTexts();
        feed(x, text);
        x.read();
        return x;
    }

    /** A new object that has read the text and run it. */
    static FigureTexts run(String text) {
        FigureTexts x = read(text);
        x.run();
        return x;
    }

    static String out(FigureTexts x) {
        StringBuilder text = new StringBuilder();
        for (int i = 0; i < x.count(8); i++) {
            text.append((char) x.out(i));
        }
        return text.toString();
    }

    static String written(FigureTexts x, int i) {
        x.write(i);
        return out(x);
    }

    static String printed(FigureTexts x) {
        x.print();
        return out(x);
    }

    /** All FALLS, as failure@byte with blanks between. */
    static String falls(FigureTexts x) {
        StringBuilder text = new StringBuilder();
        for (int i = 0; i < x.count(2); i++) {
            text.append(i > 0 ? " " : "").append(x.fall(i, 0)).append('@').append(x.fall(i, 1));
        }
        return text.toString();
    }

    /** All STATED, with blanks between. */
    static String stated(FigureTexts x) {
        StringBuilder text = new StringBuilder();
        for (int i = 0; i < x.count(1); i++) {
            text.append(i > 0 ? " " : "").append(x.stated(i));
        }
        return text.toString();
    }

    /** All DRAWN THINGS, WRITTEN, with blanks between. */
    static String drawn(FigureTexts x) {
        StringBuilder text = new StringBuilder();
        for (int i = 0; i < x.count(0); i++) {
            text.append(i > 0 ? " " : "").append(written(x, i));
        }
        return text.toString();
    }

    static String times(int n, String text) {
        return text.repeat(n);
    }
}
