/**
 * Figures as texts: a text on THE TAPE is read as a FIGURE, run in exact fractions, moved, swept,
 * tried, printed and read back. What each call promises stands in the document (DOC.md); words in
 * capitals in the comments are its words.
 *
 * All rows are made once, with the object, and used again by every call: a run of calls makes
 * nothing more but the exceptions that it is promised.
 */
public final class FigureTexts {
    public static final int NONE = -1, UNKNOWN = -2000000001, OUTSIDE = -2000000002, STATE = -2000000003, SPENT = -2000000004;

    private static final int TAPE_ROOM = 3000;
    /** 125 deeds of three lines with 20 blanks, and all words, signs and brackets of 3000 bytes stay below this. */
    private static final int OUT_ROOM = 16000;

    private static final int MOST_MACROS = 12, MOST_PARAMS = 4, MOST_NAMES = 20, MOST_NODES = 250, MOST_WITHIN = 10;
    private static final int MOST_WORD = 10, MOST_DIGITS = 9;
    private static final int MOST_STEPS = 400, MOST_FALLS = 12, MOST_TOLD = 40, MOST_CALLS = 8, MOST_FREES = 12;
    private static final int MOST_PLACES = 20, MOST_PARTS = 7, MOST_ARGUMENTS = 3;
    private static final int MOST_RUNS = 600, MOST_SWEEP = 20, MOST_TRIED = 20;
    /** Far above what the 400 STEPS of a RUN, or 250 NODES in print, can need. */
    private static final int MOST_TURNS = 1000000;

    private static final int A_NUMBER = 0, A_POINT = 1, A_FREE = 2, A_LINE = 3, A_SEGMENT = 4, A_CIRCLE = 5, A_ROW = 6;
    private static final int[] PARTS_OF_KIND = {1, 2, 2, 3, 7, 3, 2};
    private static final int SORT_POINTS = 1, SORT_LINES = 2, SORT_NUMBERS = 3;

    private static final int WELL = 0, FAIL_NOTHING = 1, FAIL_CAST = 2, FAIL_INDEX = 3, FAIL_SIZE = 4, FAIL_STORE = 5;
    private static final int FAIL_ZERO = 6, FAIL_LOST = 7, FAIL_ABSENT = 8, FAIL_ROOM = 9;

    private static final int DEED_NAME = 0, DEED_PLACE = 1, DEED_IF = 2, DEED_TIMES = 3, DEED_STATE = 4, DEED_DRAW = 5, DEED_GIVE = 6;
    private static final int EXP_NUMBER = 7, EXP_NAME = 8, EXP_PLACE = 9, EXP_TOOL = 10, EXP_MACRO = 11, EXP_MINUS = 12, EXP_SIGN = 13;

    private static final int FAULT_TOKEN = 1, FAULT_STAND = 2, FAULT_MANY = 3, FAULT_TWICE = 4, FAULT_UNTOLD = 5, FAULT_ARGUMENTS = 6;

    /** The figure's own NAMES lie behind those of the macros. */
    private static final int FIGURE_SCOPE = MOST_MACROS;

    private static final Tool[] TOOLS = Tool.values();

    private final byte[] tape = new byte[TAPE_ROOM];
    private int tapeLength = 0;
    private final Out out = new Out();
    private Figure figure = new Figure();
    private Figure spare = new Figure();
    private boolean hasFigure = false;
    private int faultPlace = NONE;
    private final Reader reader = new Reader(spare);
    private final Printer printer = new Printer(figure, out);
    private final Reckoner reckoner = new Reckoner();
    private final Things things = new Things();
    private final Frees frees = new Frees();
    private final Told told = new Told();
    private final Runner runner = new Runner(figure, new Workshop(reckoner, things, frees), told);
    private int runs = 0;
    private final int[] sweeping = new int[MOST_SWEEP + 1];
    private int sweepingMany = 0;

    public FigureTexts() {
    }

    public int feed(int a, int b, int c, int d, int e) {
        if (tapeLength + 20 > TAPE_ROOM) {
            return STATE;
        }
        layOnTape(a);
        layOnTape(b);
        layOnTape(c);
        layOnTape(d);
        layOnTape(e);
        return tapeLength;
    }

    public int cut(int n) {
        if (n < 0 || n > tapeLength) {
            return OUTSIDE;
        }
        int went = tapeLength - n;
        tapeLength = n;
        return went;
    }

    public int read() {
        spare.clear(tape, tapeLength);
        tapeLength = 0;
        int fault = reader.take(spare);
        faultPlace = reader.faultAt;
        if (fault != 0) {
            return -fault;
        }
        Figure old = figure;
        figure = spare;
        spare = old;
        hasFigure = true;
        told.clear();
        things.clear();
        frees.clear();
        sweepingMany = 0;
        return figure.nodes;
    }

    public int place() {
        return faultPlace;
    }

    public int about(int what) {
        if (what < 0 || what > 3) {
            return OUTSIDE;
        }
        if (!hasFigure) {
            return STATE;
        }
        switch (what) {
            case 0:
                return figure.macros;
            case 1:
                return figure.nodes;
            case 2:
                return figure.deeds;
            default:
                return figure.namesIn(FIGURE_SCOPE);
        }
    }

    public int move(int k, int x, int y, int down) {
        if (!inside(k, MOST_FREES) || down == 0) {
            return OUTSIDE;
        }
        reckoner.begin();
        long toX = reckoner.reduced(x, down);
        long toY = reckoner.reduced(y, down);
        if (reckoner.failure != WELL) {
            return OUTSIDE;
        }
        if (!hasFigure) {
            return STATE;
        }
        frees.moveTo(k, toX, toY);
        return 1;
    }

    public int loose(int k) {
        if (!inside(k, MOST_FREES)) {
            return OUTSIDE;
        }
        if (!hasFigure) {
            return STATE;
        }
        int was = frees.isMoved(k) ? 1 : 0;
        frees.loosen(k);
        return was;
    }

    public int run() {
        if (!hasFigure) {
            return STATE;
        }
        if (runs >= MOST_RUNS) {
            return SPENT;
        }
        runs++;
        runner.work(figure);
        return told.spent ? NONE : told.draws;
    }

    public int count(int what) {
        switch (what) {
            case 0:
                return told.draws;
            case 1:
                return told.states;
            case 2:
                return told.falls;
            case 3:
                return frees.came;
            case 4:
                return told.steps;
            case 5:
                return told.spent ? 1 : 0;
            case 6:
                return runs;
            case 7:
                return tapeLength;
            case 8:
                return out.length;
            default:
                return OUTSIDE;
        }
    }

    public int kind(int i) throws IndexOutOfBoundsException {
        if (!inside(i, told.draws)) {
            throw new IndexOutOfBoundsException("no such DRAWN THING");
        }
        return things.kindOf(told.drawnAt(i));
    }

    public long number(int i, int part, int side) throws IndexOutOfBoundsException {
        if (!inside(i, told.draws)) {
            throw new IndexOutOfBoundsException("no such DRAWN THING");
        }
        int thing = told.drawnAt(i);
        if (!inside(part, things.partsOf(thing)) || !inside(side, 2)) {
            throw new IndexOutOfBoundsException("no such part or side");
        }
        long fraction = things.partOf(thing, part);
        return side == 0 ? Reckoner.top(fraction) : Reckoner.bottom(fraction);
    }

    public int leans(int i) throws IndexOutOfBoundsException {
        if (!inside(i, told.draws)) {
            throw new IndexOutOfBoundsException("no such DRAWN THING");
        }
        return things.leaningOf(told.drawnAt(i));
    }

    public int stated(int i) throws IndexOutOfBoundsException {
        if (!inside(i, told.states)) {
            throw new IndexOutOfBoundsException("no such STATED");
        }
        return told.statedAt(i);
    }

    public int fall(int i, int what) {
        if (!inside(what, 2)) {
            return OUTSIDE;
        }
        return told.fallAt(i, what);
    }

    public boolean same(int i, int j) throws IndexOutOfBoundsException {
        if (!inside(i, told.draws) || !inside(j, told.draws)) {
            throw new IndexOutOfBoundsException("no such DRAWN THING");
        }
        return things.alike(told.drawnAt(i), told.drawnAt(j));
    }

    public int print() {
        if (!hasFigure) {
            return STATE;
        }
        printer.putFigure(figure);
        return out.length;
    }

    public int write(int i) throws IndexOutOfBoundsException {
        if (!inside(i, told.draws)) {
            throw new IndexOutOfBoundsException("no such DRAWN THING");
        }
        int thing = told.drawnAt(i);
        out.clear();
        switch (things.kindOf(thing)) {
            case A_NUMBER:
                out.putFraction(things.partOf(thing, 0));
                break;
            case A_POINT:
            case A_FREE:
                writeParts(thing, '(', ')', 2);
                break;
            case A_LINE:
            case A_SEGMENT:
                writeParts(thing, '[', ']', 3);
                break;
            case A_CIRCLE:
                writeParts(thing, '<', '>', 3);
                break;
            default:
                out.put('{');
                out.putFraction(things.partOf(thing, 1));
                out.put('}');
                break;
        }
        return out.length;
    }

    public int out(int i) throws IndexOutOfBoundsException {
        if (!inside(i, out.length)) {
            throw new IndexOutOfBoundsException("THE OUT has no such byte");
        }
        return out.byteAt(i);
    }

    public int back() {
        if (out.length > TAPE_ROOM) {
            return STATE;
        }
        System.arraycopy(out.bytes, 0, tape, 0, out.length);
        tapeLength = out.length;
        return tapeLength;
    }

    public int sweep(int k, int dx, int dy, int n, int i) {
        if (!inside(k, frees.came)) {
            return UNKNOWN;
        }
        long x = things.partOf(frees.thingAt(k), 0);
        long y = things.partOf(frees.thingAt(k), 1);
        if (n < 0 || n > MOST_SWEEP || i < 0 || strays(x, dx, n) || strays(y, dy, n)) {
            return OUTSIDE;
        }
        if (!hasFigure) {
            return STATE;
        }
        if (runs + n + 1 > MOST_RUNS) {
            return SPENT;
        }
        frees.remember();
        int ones = 0;
        sweepingMany = n + 1;
        for (int j = 0; j <= n && j < sweeping.length; j++) {
            frees.moveTo(k, further(x, dx, j), further(y, dy, j));
            runs++;
            runner.work(figure);
            sweeping[j] = told.statedAt(i);
            ones += sweeping[j] == 1 ? 1 : 0;
        }
        frees.restore();
        return ones;
    }

    public int swept(int j) {
        return inside(j, sweepingMany) && j < sweeping.length ? sweeping[j] : NONE;
    }

    public int tried(int seed, int n, int i) {
        if (n < 1 || n > MOST_TRIED || i < 0) {
            return OUTSIDE;
        }
        if (!hasFigure) {
            return STATE;
        }
        if (runs + n > MOST_RUNS) {
            return SPENT;
        }
        frees.remember();
        int h = seed;
        int ones = 0;
        int firstWrong = NONE;
        for (int j = 0; j < n; j++) {
            h = frees.scatter(h);
            runs++;
            runner.work(figure);
            int stated = told.statedAt(i);
            ones += stated == 1 ? 1 : 0;
            if (stated == 0 && firstWrong == NONE) {
                firstWrong = j;
            }
        }
        frees.restore();
        return firstWrong == NONE ? ones : NONE - firstWrong;
    }

    private static boolean inside(int i, int many) {
        return i >= 0 && i < many;
    }

    private void layOnTape(int four) {
        for (int shift = 24; shift >= 0 && inside(tapeLength, TAPE_ROOM); shift -= 8) {
            tape[tapeLength] = (byte) (four >> shift);
            tapeLength++;
        }
    }

    private void writeParts(int thing, char before, char behind, int many) {
        out.put(before);
        for (int part = 0; part < many; part++) {
            if (part > 0) {
                out.putText(", ");
            }
            out.putFraction(things.partOf(thing, part));
        }
        out.put(behind);
    }

    /** The reckoner's failure tells whether the place is LOST. */
    private long further(long from, int by, int times) {
        reckoner.begin();
        return reckoner.plus(from, reckoner.times(Reckoner.whole(times), Reckoner.whole(by)));
    }

    private boolean strays(long from, int by, int n) {
        for (int j = 0; j <= n; j++) {
            further(from, by, j);
            if (reckoner.failure != WELL) {
                return true;
            }
        }
        return false;
    }

    /**
     * What a TOOL is called, what it makes, and what it wants, a letter for each argument:
     * P a POINT, L a LINE, S a SEGMENT, C a CIRCLE, R a ROW, N a NUMBER, W a NUMBER that is WHOLE,
     * F a LINE or a CIRCLE, A any THING, E also nothing.
     */
    private enum Tool {
        X("x", "P", A_NUMBER), Y("y", "P", A_NUMBER), SLOPE("slope", "L", A_NUMBER), CENTRE("centre", "C", A_POINT),
        SQUARE("square", "C", A_NUMBER), HALF("half", "S", A_LINE), SIZE("size", "R", A_NUMBER), EMPTY("none", "E", A_NUMBER),
        SORT("kind", "A", A_NUMBER), ROW("row", "W", A_ROW), POINTS("points", "W", A_ROW), LINES("lines", "W", A_ROW),
        NUMBERS("numbers", "W", A_ROW),
        POINT("point", "NN", A_POINT), FREE("free", "NN", A_FREE), LINE("line", "PP", A_LINE), SEG("seg", "PP", A_SEGMENT),
        MID("mid", "PP", A_POINT), FOOT("foot", "PL", A_POINT), MIRROR("mirror", "PL", A_POINT), TURN("turn", "PP", A_POINT),
        PAR("par", "PL", A_LINE), PERP("perp", "PL", A_LINE), MEET("meet", "LL", A_POINT), CIRCLE("circle", "PP", A_CIRCLE),
        ROUND("round", "PN", A_CIRCLE), POWER("power", "PC", A_NUMBER), POLAR("polar", "PC", A_LINE), INVERT("invert", "PC", A_POINT),
        DIST("dist", "PP", A_NUMBER), END("end", "SN", A_POINT), ON("on", "PF", A_NUMBER), IS("is", "AA", A_NUMBER),
        FLAT("flat", "LL", A_NUMBER), RIGHT("right", "LL", A_NUMBER),
        SCALE("scale", "PPN", A_POINT), RING("ring", "PPP", A_CIRCLE), AREA("area", "PPP", A_NUMBER), CUT("cut", "LCN", A_POINT);

        final String word;
        final String wants;
        final int makes;

        Tool(String word, String wants, int makes) {
            this.word = word;
            this.wants = wants;
            this.makes = makes;
        }
    }

    /** THE OUT. */
    private static final class Out {
        final byte[] bytes = new byte[OUT_ROOM];
        /** The digits of a number come from the last one on, so they wait here. */
        private final char[] digits = new char[20];
        int length = 0;

        void clear() {
            length = 0;
        }

        int byteAt(int i) {
            return inside(i, length) && i < bytes.length ? bytes[i] & 255 : NONE;
        }

        void put(char c) {
            if (length >= 0 && length < bytes.length) {
                bytes[length] = (byte) c;
                length++;
            }
        }

        void putText(String text) {
            for (int i = 0; i < text.length(); i++) {
                put(text.charAt(i));
            }
        }

        void putFraction(long fraction) {
            putWhole(Reckoner.top(fraction));
            if (Reckoner.bottom(fraction) != 1) {
                put('/');
                putWhole(Reckoner.bottom(fraction));
            }
        }

        void putWhole(long number) {
            if (number < 0) {
                put('-');
            }
            long rest = number < 0 ? -number : number;
            int many = 0;
            do {
                digits[many] = (char) ('0' + rest % 10);
                many++;
                rest /= 10;
            } while (rest > 0 && many < digits.length);
            for (int i = many - 1; i >= 0; i--) {
                put(digits[i]);
            }
        }
    }

    /**
     * A FIGURE: its text, and its NODES as a tree. A NODE's parts hang on it by first and next;
     * the deeds of a block by body (of an else by other) and next. A NODE's byte is also where
     * its word stands in the text, so that no word is kept twice.
     */
    private static final class Figure {
        private final byte[] text = new byte[TAPE_ROOM];
        int length = 0;
        private final int[] type = new int[MOST_NODES];
        private final int[] at = new int[MOST_NODES];
        private final int[] data = new int[MOST_NODES];
        private final int[] first = new int[MOST_NODES];
        private final int[] next = new int[MOST_NODES];
        private final int[] body = new int[MOST_NODES];
        private final int[] other = new int[MOST_NODES];
        int nodes = 0;
        int deeds = 0;
        int firstDeed = NONE;
        private final int[] nameAt = new int[(MOST_MACROS + 1) * MOST_NAMES];
        private final int[] names = new int[MOST_MACROS + 1];
        private final int[] params = new int[MOST_MACROS];
        private final int[] macroAt = new int[MOST_MACROS];
        private final int[] macroBody = new int[MOST_MACROS];
        int macros = 0;

        void clear(byte[] from, int many) {
            length = many < 0 || many > text.length || many > from.length ? 0 : many;
            System.arraycopy(from, 0, text, 0, length);
            nodes = 0;
            deeds = 0;
            macros = 0;
            firstDeed = NONE;
            for (int i = 0; i < names.length; i++) {
                names[i] = 0;
            }
        }

        int byteAt(int i) {
            return i >= 0 && i < length && i < text.length ? text[i] & 255 : NONE;
        }

        /** NONE without room. */
        int add(int typed, int stands, int holds) {
            if (!inside(nodes, MOST_NODES)) {
                return NONE;
            }
            int n = nodes;
            type[n] = typed;
            at[n] = stands;
            data[n] = holds;
            first[n] = NONE;
            next[n] = NONE;
            body[n] = NONE;
            other[n] = NONE;
            nodes++;
            deeds += typed <= DEED_GIVE ? 1 : 0;
            return n;
        }

        void become(int n, int typed, int holds) {
            if (n >= 0 && n < nodes) {
                type[n] = typed;
                data[n] = holds;
            }
        }

        void hang(int n, int child) {
            if (n >= 0 && n < nodes) {
                first[n] = child;
            }
        }

        void follow(int n, int sibling) {
            if (n >= 0 && n < nodes) {
                next[n] = sibling;
            }
        }

        void hangBlock(int n, int deed) {
            if (n >= 0 && n < nodes) {
                body[n] = deed;
            }
        }

        /** The data of an if says that an else was told: its block may have no deed. */
        void hangElse(int n, int deed) {
            if (n >= 0 && n < nodes) {
                other[n] = deed;
                data[n] = 1;
            }
        }

        int typeOf(int n) {
            return n >= 0 && n < nodes ? type[n] : NONE;
        }

        int atOf(int n) {
            return n >= 0 && n < nodes ? at[n] : NONE;
        }

        int dataOf(int n) {
            return n >= 0 && n < nodes ? data[n] : NONE;
        }

        int firstOf(int n) {
            return n >= 0 && n < nodes ? first[n] : NONE;
        }

        int nextOf(int n) {
            return n >= 0 && n < nodes ? next[n] : NONE;
        }

        int bodyOf(int n) {
            return n >= 0 && n < nodes ? body[n] : NONE;
        }

        int otherOf(int n) {
            return n >= 0 && n < nodes ? other[n] : NONE;
        }

        int namesIn(int scope) {
            return inside(scope, names.length) ? names[scope] : 0;
        }

        /** The number of a NAME in its macro, in the figure; NONE: it is not told there. */
        int nameNumber(int scope, int word) {
            for (int i = 0; i < namesIn(scope) && i < MOST_NAMES; i++) {
                if (sameWord(nameAt[scope * MOST_NAMES + i], word)) {
                    return i;
                }
            }
            return NONE;
        }

        int tell(int scope, int word) {
            int i = namesIn(scope);
            if (!inside(scope, names.length) || !inside(i, MOST_NAMES)) {
                return NONE;
            }
            nameAt[scope * MOST_NAMES + i] = word;
            names[scope]++;
            return i;
        }

        int paramAt(int macro, int i) {
            return inside(macro, MOST_MACROS) && inside(i, MOST_NAMES) ? nameAt[macro * MOST_NAMES + i] : NONE;
        }

        /** PARAMS are the first NAMES of a macro: those told when its header ends. */
        void endHeader(int macro) {
            if (inside(macro, MOST_MACROS)) {
                params[macro] = names[macro];
            }
        }

        void endMacro(int word, int deed) {
            if (inside(macros, MOST_MACROS)) {
                macroAt[macros] = word;
                macroBody[macros] = deed;
                macros++;
            }
        }

        int macroNumber(int word) {
            for (int i = 0; i < macros && i < MOST_MACROS; i++) {
                if (sameWord(macroAt[i], word)) {
                    return i;
                }
            }
            return NONE;
        }

        int macroAtOf(int macro) {
            return inside(macro, macros) ? macroAt[macro] : NONE;
        }

        int paramsOf(int macro) {
            return inside(macro, macros) ? params[macro] : 0;
        }

        int macroBodyOf(int macro) {
            return inside(macro, macros) ? macroBody[macro] : NONE;
        }

        /** A letter or digit of a TOKEN; 0 for all else. */
        int letterAt(int i) {
            int b = i >= 0 && i < length && i < text.length ? text[i] : 0;
            return b >= 'a' && b <= 'z' || b >= '0' && b <= '9' ? b : 0;
        }

        boolean sameWord(int one, int two) {
            for (int i = 0; i < MOST_WORD; i++) {
                int letter = letterAt(one + i);
                if (letter != letterAt(two + i)) {
                    return false;
                }
                if (letter == 0) {
                    return true;
                }
            }
            return true;
        }

        boolean isWord(int word, String wanted) {
            for (int i = 0; i < wanted.length(); i++) {
                if (letterAt(word + i) != wanted.charAt(i)) {
                    return false;
                }
            }
            return letterAt(word + wanted.length()) == 0;
        }
    }

    /**
     * Reads a text by the grammar, TOKEN by TOKEN: at, end and kind are those of the TOKEN that is
     * looked at. The first fault stays; from then on that TOKEN is the END, so that all loops end.
     */
    private static final class Reader {
        private static final int END = 0, BAD = 1, WORD = 2, DIGITS = 3, SIGN = 4;
        private static final String SIGNS = ";,=<+-*/()[]{}";

        private Figure figure;
        private int at = 0;
        private int end = 0;
        private int kind = END;
        private int sign = NONE;
        private int scope = FIGURE_SCOPE;
        private int depth = 0;
        private int fault = 0;
        int faultAt = NONE;

        Reader(Figure figure) {
            this.figure = figure;
        }

        /** The number of the FAULT, 0 without one. */
        int take(Figure into) {
            figure = into;
            end = 0;
            depth = 0;
            fault = 0;
            faultAt = NONE;
            next();
            for (int i = 0; i < TAPE_ROOM && kind == WORD && figure.isWord(at, "macro"); i++) {
                int word = header();
                int body = block();
                if (fault == 0) {
                    figure.endMacro(word, body);
                }
            }
            scope = FIGURE_SCOPE;
            figure.firstDeed = deeds();
            if (kind != END) {
                noteFault(misplaced(), at);
            }
            return fault;
        }

        private void noteFault(int number, int place) {
            if (fault == 0) {
                fault = number;
                faultAt = place;
                kind = END;
            }
        }

        private int misplaced() {
            return kind == BAD ? FAULT_TOKEN : FAULT_STAND;
        }

        private void next() {
            if (fault != 0) {
                return;
            }
            int from = end;
            int b = figure.byteAt(from);
            while (from < figure.length && (b == 10 || b == 32)) {
                from++;
                b = figure.byteAt(from);
            }
            at = from;
            end = from;
            sign = NONE;
            if (b == NONE) {
                kind = END;
                return;
            }
            boolean letterFirst = b >= 'a' && b <= 'z';
            boolean lettered = false;
            while (end < figure.length && (b >= 'a' && b <= 'z' || b >= '0' && b <= '9')) {
                lettered |= b >= 'a';
                end++;
                b = figure.byteAt(end);
            }
            if (end == at) {
                end = at + 1;
                sign = b;
                kind = SIGNS.indexOf((char) b) >= 0 ? SIGN : BAD;
            } else if (letterFirst) {
                kind = end - at <= MOST_WORD ? WORD : BAD;
            } else {
                kind = !lettered && end - at <= MOST_DIGITS ? DIGITS : BAD;
            }
        }

        private boolean isSign(char wanted) {
            return kind == SIGN && sign == wanted;
        }

        private void want(char wanted) {
            if (isSign(wanted)) {
                next();
            } else {
                noteFault(misplaced(), at);
            }
        }

        private void open(char wanted) {
            if (!isSign(wanted)) {
                noteFault(misplaced(), at);
            } else if (depth >= MOST_WITHIN) {
                noteFault(FAULT_MANY, at);
            } else {
                depth++;
                next();
            }
        }

        private void close(char wanted) {
            if (isSign(wanted)) {
                depth--;
                next();
            } else {
                noteFault(misplaced(), at);
            }
        }

        private boolean isName() {
            return kind == WORD && !figure.isWord(at, "macro") && !figure.isWord(at, "if") && !figure.isWord(at, "else")
                && !figure.isWord(at, "times") && !figure.isWord(at, "state") && !figure.isWord(at, "draw")
                && !figure.isWord(at, "give");
        }

        private int newNode(int type, int data) {
            if (fault != 0) {
                return NONE;
            }
            int n = figure.add(type, at, data);
            if (n == NONE) {
                noteFault(FAULT_MANY, at);
            }
            return n;
        }

        private static int toolNumber(Figure figure, int word) {
            for (int i = 0; i < TOOLS.length; i++) {
                if (figure.isWord(word, TOOLS[i].word)) {
                    return i;
                }
            }
            return NONE;
        }

        /** A macro up to its block: where its NAME stands. */
        private int header() {
            next();
            int word = at;
            if (!isName()) {
                noteFault(misplaced(), at);
            } else if (figure.macros >= MOST_MACROS) {
                noteFault(FAULT_MANY, at);
            } else if (toolNumber(figure, word) != NONE || figure.macroNumber(word) != NONE) {
                noteFault(FAULT_TWICE, at);
            } else {
                scope = figure.macros;
                next();
                want('(');
                params();
                want(')');
                figure.endHeader(scope);
            }
            return word;
        }

        private void params() {
            if (isSign(')')) {
                return;
            }
            param();
            for (int i = 0; i < TAPE_ROOM && isSign(','); i++) {
                next();
                param();
            }
        }

        private void param() {
            if (!isName()) {
                noteFault(misplaced(), at);
            } else if (figure.namesIn(scope) >= MOST_PARAMS) {
                noteFault(FAULT_MANY, at);
            } else if (figure.nameNumber(scope, at) != NONE) {
                noteFault(FAULT_TWICE, at);
            } else {
                figure.tell(scope, at);
                next();
            }
        }

        private int block() {
            open('{');
            int list = deeds();
            close('}');
            return list;
        }

        private int deeds() {
            int list = NONE;
            int last = NONE;
            for (int i = 0; i < TAPE_ROOM && kind != END && !isSign('}'); i++) {
                int deed = deed();
                if (list == NONE) {
                    list = deed;
                }
                figure.follow(last, deed);
                last = deed;
            }
            return list;
        }

        private int deed() {
            if (isName()) {
                return telling();
            }
            if (kind == WORD && figure.isWord(at, "if")) {
                return branch();
            }
            if (kind == WORD && figure.isWord(at, "times")) {
                int n = newNode(DEED_TIMES, 0);
                next();
                figure.hang(n, exp());
                figure.hangBlock(n, block());
                return n;
            }
            if (kind == WORD && figure.isWord(at, "state")) {
                return plain(DEED_STATE);
            }
            if (kind == WORD && figure.isWord(at, "draw")) {
                return plain(DEED_DRAW);
            }
            if (kind == WORD && figure.isWord(at, "give") && scope != FIGURE_SCOPE) {
                return plain(DEED_GIVE);
            }
            noteFault(misplaced(), at);
            return NONE;
        }

        private int branch() {
            int n = newNode(DEED_IF, 0);
            next();
            figure.hang(n, exp());
            figure.hangBlock(n, block());
            if (kind == WORD && figure.isWord(at, "else")) {
                next();
                figure.hangElse(n, block());
            }
            return n;
        }

        private int plain(int type) {
            int n = newNode(type, 0);
            next();
            figure.hang(n, exp());
            want(';');
            return n;
        }

        /** NAME = exp or NAME [ exp ] = exp: the TOKEN behind the NAME says what is asked of it. */
        private int telling() {
            int word = at;
            int n = newNode(DEED_NAME, NONE);
            int name = figure.nameNumber(scope, word);
            next();
            if (isSign('[')) {
                if (name == NONE) {
                    noteFault(FAULT_UNTOLD, word);
                }
                figure.become(n, DEED_PLACE, name);
                open('[');
                int place = exp();
                close(']');
                want('=');
                figure.hang(n, place);
                figure.follow(place, exp());
            } else {
                if (isSign('=') && name == NONE && figure.namesIn(scope) >= MOST_NAMES) {
                    noteFault(FAULT_MANY, word);
                }
                want('=');
                figure.hang(n, exp());
                figure.become(n, DEED_NAME, name == NONE && fault == 0 ? figure.tell(scope, word) : name);
            }
            want(';');
            return n;
        }

        private int exp() {
            int left = sum();
            return isSign('=') || isSign('<') ? joined(left, 1) : left;
        }

        private int sum() {
            int left = term();
            for (int i = 0; i < TAPE_ROOM && (isSign('+') || isSign('-')); i++) {
                left = joined(left, 2);
            }
            return left;
        }

        private int term() {
            int left = one();
            for (int i = 0; i < TAPE_ROOM && (isSign('*') || isSign('/')); i++) {
                left = joined(left, 3);
            }
            return left;
        }

        /** The sign that is looked at, with what is right of it. */
        private int joined(int left, int level) {
            int n = newNode(EXP_SIGN, sign);
            next();
            figure.hang(n, left);
            figure.follow(left, level == 1 ? sum() : level == 2 ? term() : one());
            return n;
        }

        /** A loop, as there may be more - in a row than calls should stand open. */
        private int one() {
            int outer = NONE;
            int inner = NONE;
            for (int i = 0; i < TAPE_ROOM && isSign('-'); i++) {
                int n = newNode(EXP_MINUS, 0);
                next();
                figure.hang(inner, n);
                outer = outer == NONE ? n : outer;
                inner = n;
            }
            int n = core();
            figure.hang(inner, n);
            return outer == NONE ? n : outer;
        }

        private int core() {
            if (isSign('(')) {
                open('(');
                int n = exp();
                close(')');
                return n;
            }
            if (kind == DIGITS) {
                int n = newNode(EXP_NUMBER, digitsValue());
                next();
                return n;
            }
            if (!isName()) {
                noteFault(misplaced(), at);
                return NONE;
            }
            return named();
        }

        private int digitsValue() {
            int value = 0;
            for (int i = at; i < end && i - at < MOST_DIGITS; i++) {
                value = value * 10 + (figure.byteAt(i) - '0');
            }
            return value;
        }

        private int named() {
            int word = at;
            int n = newNode(EXP_NAME, NONE);
            next();
            if (isSign('(')) {
                return called(n, word);
            }
            int name = figure.nameNumber(scope, word);
            if (name == NONE) {
                noteFault(FAULT_UNTOLD, word);
            }
            figure.become(n, EXP_NAME, name);
            if (isSign('[')) {
                figure.become(n, EXP_PLACE, name);
                open('[');
                figure.hang(n, exp());
                close(']');
            }
            return n;
        }

        private int called(int n, int word) {
            int macro = figure.macroNumber(word);
            int tool = toolNumber(figure, word);
            int wanted = 0;
            if (macro != NONE) {
                figure.become(n, EXP_MACRO, macro);
                wanted = figure.paramsOf(macro);
            } else if (inside(tool, TOOLS.length)) {
                figure.become(n, EXP_TOOL, tool);
                wanted = TOOLS[tool].wants.length();
            } else {
                noteFault(FAULT_UNTOLD, word);
            }
            open('(');
            int many = arguments(n);
            close(')');
            if (many != wanted) {
                noteFault(FAULT_ARGUMENTS, word);
            }
            return n;
        }

        private int arguments(int n) {
            if (isSign(')')) {
                return 0;
            }
            int last = exp();
            figure.hang(n, last);
            int many = 1;
            for (int i = 0; i < TAPE_ROOM && isSign(','); i++) {
                next();
                int argument = exp();
                figure.follow(last, argument);
                last = argument;
                many++;
            }
            return many;
        }
    }

    /** Prints a FIGURE on THE OUT. An exp is walked with a stack of its own, as chains of signs may be long. */
    private static final class Printer {
        /** What the grammar calls exp, sum, term, one: the higher, the tighter. */
        private static final int EXP = 1, SUM = 2, TERM = 3, ONE = 4;

        private final Out out;
        private Figure figure;
        private final int[] node = new int[MOST_NODES];
        private final int[] cursor = new int[MOST_NODES];
        private final boolean[] wrapped = new boolean[MOST_NODES];
        private int top = NONE;

        Printer(Figure figure, Out out) {
            this.figure = figure;
            this.out = out;
        }

        void putFigure(Figure printed) {
            figure = printed;
            out.clear();
            for (int i = 0; i < figure.macros; i++) {
                putHeader(i);
                putDeeds(figure.macroBodyOf(i), 1);
                out.putText("}\n");
            }
            putDeeds(figure.firstDeed, 0);
        }

        private void putHeader(int macro) {
            out.putText("macro ");
            putWord(figure.macroAtOf(macro));
            out.put('(');
            for (int i = 0; i < figure.paramsOf(macro); i++) {
                if (i > 0) {
                    out.putText(", ");
                }
                putWord(figure.paramAt(macro, i));
            }
            out.putText(") {\n");
        }

        private void putWord(int word) {
            for (int i = word; i < word + MOST_WORD && figure.letterAt(i) != 0; i++) {
                out.put((char) figure.letterAt(i));
            }
        }

        private void putBlanks(int level) {
            for (int i = 0; i < level; i++) {
                out.putText("  ");
            }
        }

        private void putDeeds(int list, int level) {
            if (level > MOST_WITHIN) {
                return;
            }
            int deed = list;
            for (int i = 0; i < MOST_NODES && deed != NONE; i++) {
                putBlanks(level);
                putDeed(deed, level);
                deed = figure.nextOf(deed);
            }
        }

        private void putDeed(int deed, int level) {
            switch (figure.typeOf(deed)) {
                case DEED_NAME:
                    putWord(figure.atOf(deed));
                    putLine(" = ", figure.firstOf(deed));
                    break;
                case DEED_PLACE:
                    putWord(figure.atOf(deed));
                    out.put('[');
                    putExp(figure.firstOf(deed));
                    putLine("] = ", figure.nextOf(figure.firstOf(deed)));
                    break;
                case DEED_STATE:
                    putLine("state ", figure.firstOf(deed));
                    break;
                case DEED_DRAW:
                    putLine("draw ", figure.firstOf(deed));
                    break;
                case DEED_GIVE:
                    putLine("give ", figure.firstOf(deed));
                    break;
                default:
                    putBlocks(deed, level);
                    break;
            }
        }

        private void putLine(String before, int exp) {
            out.putText(before);
            putExp(exp);
            out.putText(";\n");
        }

        private void putBlocks(int deed, int level) {
            boolean isIf = figure.typeOf(deed) == DEED_IF;
            out.putText(isIf ? "if " : "times ");
            putExp(figure.firstOf(deed));
            out.putText(" {\n");
            putDeeds(figure.bodyOf(deed), level + 1);
            if (isIf && figure.dataOf(deed) == 1) {
                putBlanks(level);
                out.putText("} else {\n");
                putDeeds(figure.otherOf(deed), level + 1);
            }
            putBlanks(level);
            out.putText("}\n");
        }

        private void putExp(int exp) {
            top = NONE;
            begin(exp, EXP);
            for (int i = 0; i < MOST_TURNS && inside(top, node.length); i++) {
                int n = node[top];
                int child = cursor[top];
                if (child == NONE) {
                    end(n, wrapped[top]);
                    top--;
                } else {
                    boolean isFirst = child == figure.firstOf(n);
                    cursor[top] = figure.nextOf(child);
                    if (!isFirst) {
                        putBetween(n);
                    }
                    begin(child, tightness(n, isFirst));
                }
            }
        }

        private void begin(int n, int least) {
            if (!inside(top + 1, node.length)) {
                return;
            }
            top++;
            node[top] = n;
            cursor[top] = figure.firstOf(n);
            wrapped[top] = levelOf(n) < least;
            if (wrapped[top]) {
                out.put('(');
            }
            switch (figure.typeOf(n)) {
                case EXP_NUMBER:
                    out.putWhole(figure.dataOf(n));
                    break;
                case EXP_MINUS:
                    out.put('-');
                    break;
                case EXP_SIGN:
                    break;
                case EXP_NAME:
                    putWord(figure.atOf(n));
                    break;
                case EXP_PLACE:
                    putWord(figure.atOf(n));
                    out.put('[');
                    break;
                default:
                    putWord(figure.atOf(n));
                    out.put('(');
                    break;
            }
        }

        private void putBetween(int n) {
            if (figure.typeOf(n) == EXP_SIGN) {
                out.put(' ');
                out.put((char) figure.dataOf(n));
                out.put(' ');
            } else {
                out.putText(", ");
            }
        }

        private void end(int n, boolean isWrapped) {
            int type = figure.typeOf(n);
            if (type == EXP_PLACE) {
                out.put(']');
            }
            if (type == EXP_TOOL || type == EXP_MACRO || isWrapped) {
                out.put(')');
            }
        }

        private int levelOf(int n) {
            if (figure.typeOf(n) != EXP_SIGN) {
                return ONE;
            }
            switch (figure.dataOf(n)) {
                case '+':
                case '-':
                    return SUM;
                case '*':
                case '/':
                    return TERM;
                default:
                    return EXP;
            }
        }

        /** What the grammar wants at least of a part of n, so that it needs no ( ). */
        private int tightness(int n, boolean isFirst) {
            int type = figure.typeOf(n);
            if (type == EXP_MINUS) {
                return ONE;
            }
            if (type != EXP_SIGN) {
                return EXP;
            }
            int level = levelOf(n);
            if (level == EXP) {
                return SUM;
            }
            return isFirst ? level : level + 1;
        }
    }

    /**
     * Reckons with FRACTIONS, each in a long: the top above, the bottom in the lower 32 bits. The first
     * failure stays, and all that is reckoned behind it is of no account.
     */
    private static final class Reckoner {
        static final long NOUGHT = 1L, UNIT = (1L << 32) | 1L;
        private static final long MOST = 1000000000L;
        /** Euclid's way with numbers below 2^62 takes less than 100 divisions. */
        private static final int MOST_DIVISIONS = 200;
        /** The greatest root of a FRACTION's top or bottom has 15 bits. */
        private static final int ROOT_BIT = 1 << 14;

        int failure = WELL;

        void begin() {
            failure = WELL;
        }

        void fail(int why) {
            if (failure == WELL) {
                failure = why;
            }
        }

        static long top(long fraction) {
            return fraction >> 32;
        }

        static long bottom(long fraction) {
            return fraction & 0xFFFFFFFFL;
        }

        static long whole(int number) {
            return ((long) number << 32) | 1L;
        }

        static long truth(boolean held) {
            return held ? UNIT : NOUGHT;
        }

        /** Tops and bottoms are below 2^30, so the products of two are below 2^60. */
        static int compare(long f, long g) {
            return Long.compare(top(f) * bottom(g), top(g) * bottom(f));
        }

        long plus(long f, long g) {
            return reduced(top(f) * bottom(g) + top(g) * bottom(f), bottom(f) * bottom(g));
        }

        long minus(long f, long g) {
            return reduced(top(f) * bottom(g) - top(g) * bottom(f), bottom(f) * bottom(g));
        }

        long times(long f, long g) {
            return reduced(top(f) * top(g), bottom(f) * bottom(g));
        }

        long over(long f, long g) {
            return reduced(top(f) * bottom(g), bottom(f) * top(g));
        }

        long negative(long f) {
            return reduced(-top(f), bottom(f));
        }

        long reduced(long top, long bottom) {
            if (failure != WELL) {
                return NOUGHT;
            }
            if (bottom == 0) {
                failure = FAIL_ZERO;
                return NOUGHT;
            }
            long divisor = bottom;
            long rest = top % divisor;
            for (int i = 0; i < MOST_DIVISIONS && rest != 0; i++) {
                long smaller = divisor % rest;
                divisor = rest;
                rest = smaller;
            }
            // With the bottom's sign the divisor makes the bottom that comes positive.
            if (divisor < 0 != bottom < 0) {
                divisor = -divisor;
            }
            if (divisor == 0) {
                return NOUGHT;
            }
            long above = top / divisor;
            long below = bottom / divisor;
            if (above > MOST || above < -MOST || below > MOST) {
                failure = FAIL_LOST;
                return NOUGHT;
            }
            return (above << 32) | below;
        }

        /** The FRACTION not below 0 whose square that is; ABSENT without one. */
        long root(long square) {
            long above = wholeRoot(top(square));
            long below = wholeRoot(bottom(square));
            if (above < 0 || below < 1) {
                fail(FAIL_ABSENT);
                return NOUGHT;
            }
            return (above << 32) | below;
        }

        private static long wholeRoot(long square) {
            long root = 0;
            for (int bit = ROOT_BIT; bit > 0; bit >>= 1) {
                if ((root + bit) * (root + bit) <= square) {
                    root += bit;
                }
            }
            return root * root == square ? root : NONE;
        }
    }

    /** The THINGS of the latest RUN, by number; a STEP makes one at most. */
    private static final class Things {
        private final int[] kinds = new int[MOST_STEPS];
        private final int[] leaning = new int[MOST_STEPS];
        private final long[] parts = new long[MOST_STEPS * MOST_PARTS];
        /** What is at the places of ROWS, NONE for nothing. */
        private final int[] held = new int[MOST_STEPS * MOST_PLACES];
        private int many = 0;

        void clear() {
            many = 0;
        }

        int add(int kind, int leans) {
            if (!inside(many, MOST_STEPS)) {
                return NONE;
            }
            kinds[many] = kind;
            leaning[many] = leans;
            many++;
            return many - 1;
        }

        int addNumber(long fraction, int leans) {
            int thing = add(A_NUMBER, leans);
            setPart(thing, 0, fraction);
            return thing;
        }

        int addRow(int sort, int places) {
            int row = add(A_ROW, 0);
            setPart(row, 0, Reckoner.whole(sort));
            setPart(row, 1, Reckoner.whole(places));
            for (int i = 0; i < places; i++) {
                hold(row, i, NONE);
            }
            return row;
        }

        void setPart(int thing, int part, long fraction) {
            if (inside(thing, many) && inside(part, MOST_PARTS)) {
                parts[thing * MOST_PARTS + part] = fraction;
            }
        }

        long partOf(int thing, int part) {
            boolean there = thing >= 0 && thing < many && part >= 0 && part < MOST_PARTS;
            return there ? parts[thing * MOST_PARTS + part] : Reckoner.NOUGHT;
        }

        int wholeOf(int thing, int part) {
            return (int) Reckoner.top(partOf(thing, part));
        }

        int kindOf(int thing) {
            return thing >= 0 && thing < many ? kinds[thing] : NONE;
        }

        int partsOf(int thing) {
            int kind = kindOf(thing);
            return inside(kind, PARTS_OF_KIND.length) ? PARTS_OF_KIND[kind] : 0;
        }

        /** Nothing leans on nothing. */
        int leaningOf(int thing) {
            return inside(thing, many) ? leaning[thing] : 0;
        }

        int heldAt(int row, int place) {
            return inside(row, many) && inside(place, MOST_PLACES) ? held[row * MOST_PLACES + place] : NONE;
        }

        void hold(int row, int place, int thing) {
            if (inside(row, many) && inside(place, MOST_PLACES)) {
                held[row * MOST_PLACES + place] = thing;
            }
        }

        /** The letters are those of the TOOLS. */
        boolean fits(int thing, char want) {
            int kind = kindOf(thing);
            switch (want) {
                case 'P':
                    return kind == A_POINT || kind == A_FREE;
                case 'L':
                    return kind == A_LINE || kind == A_SEGMENT;
                case 'S':
                    return kind == A_SEGMENT;
                case 'C':
                    return kind == A_CIRCLE;
                case 'R':
                    return kind == A_ROW;
                case 'N':
                    return kind == A_NUMBER;
                case 'W':
                    return kind == A_NUMBER && Reckoner.bottom(partOf(thing, 0)) == 1;
                case 'F':
                    return kind == A_LINE || kind == A_SEGMENT || kind == A_CIRCLE;
                default:
                    return true;
            }
        }

        boolean fitsSort(int thing, int sort) {
            switch (sort) {
                case SORT_POINTS:
                    return fits(thing, 'P');
                case SORT_LINES:
                    return fits(thing, 'L');
                case SORT_NUMBERS:
                    return fits(thing, 'N');
                default:
                    return true;
            }
        }

        boolean alike(int one, int two) {
            if (fits(one, 'R') || fits(two, 'R')) {
                return one == two;
            }
            boolean ofOneKind = fits(one, 'N') && fits(two, 'N') || fits(one, 'P') && fits(two, 'P')
                || fits(one, 'L') && fits(two, 'L') || fits(one, 'C') && fits(two, 'C');
            // A SEGMENT's ends are not asked.
            int asked = Math.min(partsOf(one), partsOf(two)) > 2 ? 3 : partsOf(one);
            for (int i = 0; i < asked && ofOneKind; i++) {
                ofOneKind = partOf(one, i) == partOf(two, i);
            }
            return ofOneKind;
        }
    }

    /** Where FREES are MOVED to, and those that came in the latest RUN. */
    private static final class Frees {
        private final boolean[] moved = new boolean[MOST_FREES];
        private final long[] toX = new long[MOST_FREES];
        private final long[] toY = new long[MOST_FREES];
        private final boolean[] wasMoved = new boolean[MOST_FREES];
        private final long[] wasX = new long[MOST_FREES];
        private final long[] wasY = new long[MOST_FREES];
        private final int[] thing = new int[MOST_FREES];
        int came = 0;

        void clear() {
            came = 0;
            for (int k = 0; k < MOST_FREES; k++) {
                moved[k] = false;
            }
        }

        boolean isMoved(int k) {
            return inside(k, MOST_FREES) && moved[k];
        }

        long xOf(int k) {
            return inside(k, MOST_FREES) ? toX[k] : Reckoner.NOUGHT;
        }

        long yOf(int k) {
            return inside(k, MOST_FREES) ? toY[k] : Reckoner.NOUGHT;
        }

        void moveTo(int k, long x, long y) {
            if (inside(k, MOST_FREES)) {
                moved[k] = true;
                toX[k] = x;
                toY[k] = y;
            }
        }

        void loosen(int k) {
            if (inside(k, MOST_FREES)) {
                moved[k] = false;
            }
        }

        void come(int free) {
            if (inside(came, MOST_FREES)) {
                thing[came] = free;
                came++;
            }
        }

        int thingAt(int k) {
            return inside(k, came) && k < MOST_FREES ? thing[k] : NONE;
        }

        void remember() {
            for (int k = 0; k < MOST_FREES; k++) {
                wasMoved[k] = moved[k];
                wasX[k] = toX[k];
                wasY[k] = toY[k];
            }
        }

        void restore() {
            for (int k = 0; k < MOST_FREES; k++) {
                moved[k] = wasMoved[k];
                toX[k] = wasX[k];
                toY[k] = wasY[k];
            }
        }

        /** Draws a place for each; what h is behind them. */
        int scatter(int seed) {
            int h = seed;
            for (int k = 0; k < MOST_FREES; k++) {
                h = h * 1103515245 + 12345;
                long x = Reckoner.whole((h >>> 16) % 41 - 20);
                h = h * 1103515245 + 12345;
                moveTo(k, x, Reckoner.whole((h >>> 16) % 41 - 20));
            }
            return h;
        }
    }

    /** What the latest RUN tells. */
    private static final class Told {
        private final int[] drawn = new int[MOST_TOLD];
        private final int[] stated = new int[MOST_TOLD];
        private final int[] failures = new int[MOST_FALLS];
        private final int[] bytes = new int[MOST_FALLS];
        int draws = 0;
        int states = 0;
        int falls = 0;
        int steps = 0;
        boolean spent = false;

        void clear() {
            draws = 0;
            states = 0;
            falls = 0;
            steps = 0;
            spent = false;
        }

        /** Whether there is a STEP more. */
        boolean goOn() {
            if (steps >= MOST_STEPS) {
                spent = true;
                return false;
            }
            steps++;
            return true;
        }

        boolean isFullOf(int deedType) {
            return deedType == DEED_DRAW && draws >= MOST_TOLD || deedType == DEED_STATE && states >= MOST_TOLD;
        }

        void addDrawn(int thing) {
            if (inside(draws, MOST_TOLD)) {
                drawn[draws] = thing;
                draws++;
            }
        }

        void addStated(int held) {
            if (inside(states, MOST_TOLD)) {
                stated[states] = held;
                states++;
            }
        }

        void addFall(int failure, int at) {
            if (inside(falls, MOST_FALLS)) {
                failures[falls] = failure;
                bytes[falls] = at;
                falls++;
            }
            spent |= falls >= MOST_FALLS;
        }

        int drawnAt(int i) {
            return inside(i, draws) && i < MOST_TOLD ? drawn[i] : NONE;
        }

        int statedAt(int i) {
            return inside(i, states) && i < MOST_TOLD ? stated[i] : NONE;
        }

        int fallAt(int i, int what) {
            if (!inside(i, falls) || i >= MOST_FALLS) {
                return NONE;
            }
            return what == 0 ? failures[i] : bytes[i];
        }
    }

    /**
     * Makes THINGS out of THINGS. What a step makes on the way stands in x, y (a point) and a, b, c (a line);
     * whether it was made, the reckoner's failure tells.
     */
    private static final class Workshop {
        private static final long TWO = 2L << 32 | 1L;

        final Reckoner reckoner;
        final Things things;
        final Frees frees;
        private final int[] arguments = new int[MOST_ARGUMENTS];
        private long x = Reckoner.NOUGHT;
        private long y = Reckoner.NOUGHT;
        private long a = Reckoner.NOUGHT;
        private long b = Reckoner.NOUGHT;
        private long c = Reckoner.NOUGHT;
        private long square = Reckoner.NOUGHT;

        Workshop(Reckoner reckoner, Things things, Frees frees) {
            this.reckoner = reckoner;
            this.things = things;
            this.frees = frees;
        }

        /** Asks whether there is a THING, and one of the KIND that is wanted. */
        private void ask(int thing, char want) {
            if (thing == NONE && want != 'E') {
                reckoner.fail(FAIL_NOTHING);
            } else if (!things.fits(thing, want)) {
                reckoner.fail(FAIL_CAST);
            }
        }

        boolean accepts(int thing, char want) {
            reckoner.begin();
            ask(thing, want);
            return reckoner.failure == WELL;
        }

        private long given(int argument, int part) {
            return inside(argument, arguments.length) ? things.partOf(arguments[argument], part) : Reckoner.NOUGHT;
        }

        /** The THING that a TOOL makes of the values from there on. */
        int use(Tool tool, int[] values, int from) {
            reckoner.begin();
            int leans = 0;
            for (int i = 0; i < tool.wants.length() && i < arguments.length; i++) {
                arguments[i] = inside(from + i, values.length) ? values[from + i] : NONE;
                ask(arguments[i], tool.wants.charAt(i));
                leans |= things.leaningOf(arguments[i]);
            }
            if (reckoner.failure != WELL) {
                return NONE;
            }
            switch (tool.makes) {
                case A_NUMBER:
                    long number = tool.wants.length() == 1 ? told(tool) : measured(tool);
                    return reckoner.failure == WELL ? things.addNumber(number, leans) : NONE;
                case A_POINT:
                    makePoint(tool);
                    return newPoint(A_POINT, leans);
                case A_FREE:
                    return newFree(leans);
                case A_CIRCLE:
                    if (tool == Tool.RING) {
                        ring(given(0, 0), given(0, 1));
                    } else {
                        makeCircle(tool);
                    }
                    return newCircle(leans);
                case A_ROW:
                    return newRow(tool);
                default:
                    makeLine(tool);
                    return newLine(tool.makes, leans);
            }
        }

        private int newPoint(int kind, int leans) {
            if (reckoner.failure != WELL) {
                return NONE;
            }
            int thing = things.add(kind, leans);
            things.setPart(thing, 0, x);
            things.setPart(thing, 1, y);
            return thing;
        }

        private int newFree(int leans) {
            int k = frees.came;
            if (k >= MOST_FREES) {
                reckoner.fail(FAIL_ROOM);
                return NONE;
            }
            boolean moved = frees.isMoved(k);
            x = moved ? frees.xOf(k) : given(0, 0);
            y = moved ? frees.yOf(k) : given(1, 0);
            int thing = newPoint(A_FREE, moved ? 1 << k : leans | 1 << k);
            frees.come(thing);
            return thing;
        }

        private int newCircle(int leans) {
            int thing = newPoint(A_CIRCLE, leans);
            things.setPart(thing, 2, square);
            return thing;
        }

        private int newLine(int kind, int leans) {
            if (reckoner.failure != WELL) {
                return NONE;
            }
            int thing = things.add(kind, leans);
            things.setPart(thing, 0, a);
            things.setPart(thing, 1, b);
            things.setPart(thing, 2, c);
            if (kind == A_SEGMENT) {
                things.setPart(thing, 3, given(0, 0));
                things.setPart(thing, 4, given(0, 1));
                things.setPart(thing, 5, given(1, 0));
                things.setPart(thing, 6, given(1, 1));
            }
            return thing;
        }

        private int newRow(Tool tool) {
            long places = Reckoner.top(given(0, 0));
            if (places < 0) {
                reckoner.fail(FAIL_SIZE);
                return NONE;
            }
            if (places > MOST_PLACES) {
                reckoner.fail(FAIL_ROOM);
                return NONE;
            }
            int sort = tool == Tool.POINTS ? SORT_POINTS : tool == Tool.LINES ? SORT_LINES : tool == Tool.NUMBERS ? SORT_NUMBERS : 0;
            return things.addRow(sort, (int) places);
        }

        /** NUMBERS that one THING tells. */
        private long told(Tool tool) {
            switch (tool) {
                case X:
                    return given(0, 0);
                case Y:
                case SIZE:
                    return given(0, 1);
                case SQUARE:
                    return given(0, 2);
                case SLOPE:
                    return reckoner.over(reckoner.negative(given(0, 0)), given(0, 1));
                case EMPTY:
                    return Reckoner.truth(arguments[0] == NONE);
                default:
                    return Reckoner.whole(things.kindOf(arguments[0]));
            }
        }

        /** NUMBERS out of two or three THINGS. */
        private long measured(Tool tool) {
            switch (tool) {
                case DIST:
                    return dist(given(0, 0), given(0, 1), given(1, 0), given(1, 1));
                case AREA:
                    return area();
                case POWER:
                    return reckoner.minus(dist(given(0, 0), given(0, 1), given(1, 0), given(1, 1)), given(1, 2));
                case ON:
                    return Reckoner.truth(isOn());
                case IS:
                    return Reckoner.truth(things.alike(arguments[0], arguments[1]));
                case FLAT:
                    return Reckoner.truth(reckoner.times(given(0, 0), given(1, 1)) == reckoner.times(given(1, 0), given(0, 1)));
                default:
                    return Reckoner.truth(reckoner.plus(reckoner.times(given(0, 0), given(1, 0)),
                        reckoner.times(given(0, 1), given(1, 1))) == Reckoner.NOUGHT);
            }
        }

        private long dist(long px, long py, long qx, long qy) {
            long across = reckoner.minus(px, qx);
            long acrossSquare = reckoner.times(across, across);
            long up = reckoner.minus(py, qy);
            return reckoner.plus(acrossSquare, reckoner.times(up, up));
        }

        private long area() {
            long first = reckoner.times(reckoner.minus(given(1, 0), given(0, 0)), reckoner.minus(given(2, 1), given(0, 1)));
            long second = reckoner.times(reckoner.minus(given(2, 0), given(0, 0)), reckoner.minus(given(1, 1), given(0, 1)));
            return reckoner.minus(first, second);
        }

        private boolean isOn() {
            long px = given(0, 0);
            long py = given(0, 1);
            if (things.kindOf(arguments[1]) == A_CIRCLE) {
                return dist(px, py, given(1, 0), given(1, 1)) == given(1, 2);
            }
            long reached = reckoner.plus(reckoner.times(given(1, 0), px), reckoner.times(given(1, 1), py));
            if (reached != given(1, 2)) {
                return false;
            }
            return things.kindOf(arguments[1]) != A_SEGMENT
                || isBetween(px, given(1, 3), given(1, 5)) && isBetween(py, given(1, 4), given(1, 6));
        }

        private static boolean isBetween(long f, long one, long two) {
            int toOne = Reckoner.compare(f, one);
            int toTwo = Reckoner.compare(f, two);
            return toOne == 0 || toTwo == 0 || toOne < 0 != toTwo < 0;
        }

        private void makePoint(Tool tool) {
            switch (tool) {
                case POINT:
                    x = given(0, 0);
                    y = given(1, 0);
                    break;
                case CENTRE:
                    x = given(0, 0);
                    y = given(0, 1);
                    break;
                case END:
                    takeEnd();
                    break;
                case MID:
                    middle(given(0, 0), given(0, 1), given(1, 0), given(1, 1));
                    break;
                case MEET:
                    meet(given(0, 0), given(0, 1), given(0, 2), given(1, 0), given(1, 1), given(1, 2));
                    break;
                case FOOT:
                    foot(given(0, 0), given(0, 1), given(1, 0), given(1, 1), given(1, 2));
                    break;
                case MIRROR:
                    foot(given(0, 0), given(0, 1), given(1, 0), given(1, 1), given(1, 2));
                    x = reckoner.minus(reckoner.times(TWO, x), given(0, 0));
                    y = reckoner.minus(reckoner.times(TWO, y), given(0, 1));
                    break;
                case TURN:
                    x = reckoner.minus(given(1, 0), reckoner.minus(given(0, 1), given(1, 1)));
                    y = reckoner.plus(given(1, 1), reckoner.minus(given(0, 0), given(1, 0)));
                    break;
                case SCALE:
                    scale(given(2, 0));
                    break;
                case INVERT:
                    scale(reckoner.over(given(1, 2), dist(given(0, 0), given(0, 1), given(1, 0), given(1, 1))));
                    break;
                default:
                    askSide(given(2, 0));
                    foot(given(1, 0), given(1, 1), given(0, 0), given(0, 1), given(0, 2));
                    cutFromFoot();
                    break;
            }
        }

        private void askSide(long side) {
            if (side != Reckoner.NOUGHT && side != Reckoner.UNIT) {
                reckoner.fail(FAIL_INDEX);
            }
        }

        private void takeEnd() {
            askSide(given(1, 0));
            int part = given(1, 0) == Reckoner.NOUGHT ? 3 : 5;
            x = given(0, part);
            y = given(0, part + 1);
        }

        private void middle(long px, long py, long qx, long qy) {
            x = reckoner.over(reckoner.plus(px, qx), TWO);
            y = reckoner.over(reckoner.plus(py, qy), TWO);
        }

        private void meet(long la, long lb, long lc, long ma, long mb, long mc) {
            long e = reckoner.minus(reckoner.times(la, mb), reckoner.times(ma, lb));
            x = reckoner.over(reckoner.minus(reckoner.times(lc, mb), reckoner.times(mc, lb)), e);
            y = reckoner.over(reckoner.minus(reckoner.times(la, mc), reckoner.times(ma, lc)), e);
        }

        private void foot(long px, long py, long la, long lb, long lc) {
            perpendicular(px, py, la, lb);
            normal();
            meet(la, lb, lc, a, b, c);
        }

        /** The first argument, from the centre of the second. */
        private void scale(long k) {
            long ox = given(1, 0);
            long oy = given(1, 1);
            x = reckoner.plus(ox, reckoner.times(k, reckoner.minus(given(0, 0), ox)));
            y = reckoner.plus(oy, reckoner.times(k, reckoner.minus(given(0, 1), oy)));
        }

        /** cut, when x, y is the foot of the CIRCLE's centre on the LINE. */
        private void cutFromFoot() {
            long la = given(0, 0);
            long lb = given(0, 1);
            long h = reckoner.minus(given(1, 2), dist(given(1, 0), given(1, 1), x, y));
            if (Reckoner.top(h) < 0) {
                reckoner.fail(FAIL_ABSENT);
            }
            long t = reckoner.root(reckoner.over(h, reckoner.plus(reckoner.times(la, la), reckoner.times(lb, lb))));
            long oneX = reckoner.minus(x, reckoner.times(t, lb));
            long oneY = reckoner.plus(y, reckoner.times(t, la));
            long twoX = reckoner.plus(x, reckoner.times(t, lb));
            long twoY = reckoner.minus(y, reckoner.times(t, la));
            int byX = Reckoner.compare(oneX, twoX);
            boolean oneIsLess = byX < 0 || byX == 0 && Reckoner.compare(oneY, twoY) < 0;
            boolean takesOne = oneIsLess == (given(2, 0) == Reckoner.NOUGHT);
            x = takesOne ? oneX : twoX;
            y = takesOne ? oneY : twoY;
        }

        private void makeLine(Tool tool) {
            switch (tool) {
                case LINE:
                case SEG:
                    through(given(0, 0), given(0, 1), given(1, 0), given(1, 1));
                    normal();
                    break;
                case PAR:
                    a = given(1, 0);
                    b = given(1, 1);
                    c = reckoner.plus(reckoner.times(a, given(0, 0)), reckoner.times(b, given(0, 1)));
                    break;
                case PERP:
                    perpendicular(given(0, 0), given(0, 1), given(1, 0), given(1, 1));
                    normal();
                    break;
                case HALF:
                    middle(given(0, 3), given(0, 4), given(0, 5), given(0, 6));
                    perpendicular(x, y, given(0, 0), given(0, 1));
                    normal();
                    break;
                default:
                    a = reckoner.minus(given(0, 0), given(1, 0));
                    b = reckoner.minus(given(0, 1), given(1, 1));
                    c = reckoner.plus(reckoner.plus(given(1, 2), reckoner.times(a, given(1, 0))), reckoner.times(b, given(1, 1)));
                    normal();
                    break;
            }
        }

        /** Not NORMAL yet. */
        private void through(long px, long py, long qx, long qy) {
            a = reckoner.minus(py, qy);
            b = reckoner.minus(qx, px);
            c = reckoner.plus(reckoner.times(a, px), reckoner.times(b, py));
        }

        /** Not NORMAL yet. */
        private void perpendicular(long px, long py, long la, long lb) {
            a = reckoner.negative(lb);
            b = la;
            c = reckoner.plus(reckoner.times(a, px), reckoner.times(b, py));
        }

        private void normal() {
            long by = a != Reckoner.NOUGHT ? a : b;
            a = reckoner.over(a, by);
            b = reckoner.over(b, by);
            c = reckoner.over(c, by);
        }

        private void makeCircle(Tool tool) {
            x = given(0, 0);
            y = given(0, 1);
            if (tool == Tool.CIRCLE) {
                square = dist(x, y, given(1, 0), given(1, 1));
                return;
            }
            square = given(1, 0);
            if (Reckoner.top(square) < 0) {
                reckoner.fail(FAIL_ABSENT);
            }
        }

        private void ring(long px, long py) {
            halving(px, py, given(1, 0), given(1, 1));
            long la = a;
            long lb = b;
            long lc = c;
            halving(px, py, given(2, 0), given(2, 1));
            meet(la, lb, lc, a, b, c);
            square = dist(x, y, px, py);
        }

        private void halving(long px, long py, long qx, long qy) {
            middle(px, py, qx, qy);
            through(px, py, qx, qy);
            normal();
            perpendicular(x, y, a, b);
            normal();
        }

        int between(int sign, int left, int right) {
            reckoner.begin();
            ask(left, 'N');
            ask(right, 'N');
            long result = reckoner.failure == WELL ? reckoned(sign, things.partOf(left, 0), things.partOf(right, 0)) : Reckoner.NOUGHT;
            if (reckoner.failure != WELL) {
                return NONE;
            }
            return things.addNumber(result, things.leaningOf(left) | things.leaningOf(right));
        }

        private long reckoned(int sign, long left, long right) {
            switch (sign) {
                case '+':
                    return reckoner.plus(left, right);
                case '-':
                    return reckoner.minus(left, right);
                case '*':
                    return reckoner.times(left, right);
                case '/':
                    return reckoner.over(left, right);
                case '<':
                    return Reckoner.truth(Reckoner.compare(left, right) < 0);
                default:
                    return Reckoner.truth(left == right);
            }
        }

        int negated(int thing) {
            if (!accepts(thing, 'N')) {
                return NONE;
            }
            return things.addNumber(reckoner.negative(things.partOf(thing, 0)), things.leaningOf(thing));
        }

        private void askPlace(int row, int place) {
            reckoner.begin();
            ask(row, 'R');
            ask(place, 'W');
            if (reckoner.failure == WELL && !inside(things.wholeOf(place, 0), things.wholeOf(row, 1))) {
                reckoner.fail(FAIL_INDEX);
            }
        }

        int picked(int row, int place) {
            askPlace(row, place);
            return reckoner.failure == WELL ? things.heldAt(row, things.wholeOf(place, 0)) : NONE;
        }

        void store(int row, int place, int thing) {
            askPlace(row, place);
            if (reckoner.failure == WELL && thing != NONE && !things.fitsSort(thing, things.wholeOf(row, 0))) {
                reckoner.fail(FAIL_STORE);
            }
            if (reckoner.failure == WELL) {
                things.hold(row, things.wholeOf(place, 0), thing);
            }
        }
    }

    /**
     * Does a RUN with stacks of its own: macros within macros would hold too many calls open. An entry is a
     * NODE under way: its cursor is the part, or the deed of its block, that comes next; floor is where the
     * values of its parts begin.
     */
    private static final class Runner {
        /** The bottom entry is the figure itself; every other one took a STEP. */
        private static final int ROOM = MOST_STEPS + 1;
        private static final int FRAMES = MOST_CALLS + 1;

        private final Workshop shop;
        private final Told told;
        private Figure figure;
        private final int[] node = new int[ROOM];
        private final int[] cursor = new int[ROOM];
        private final int[] floor = new int[ROOM];
        private final boolean[] inBlock = new boolean[ROOM];
        /** How many turns of a times are to come. */
        private final int[] turns = new int[ROOM];
        private int top = NONE;
        private final int[] value = new int[ROOM];
        private int values = 0;
        /** What NAMES hold, those of each macro under way behind the others. */
        private final int[] holds = new int[FRAMES * MOST_NAMES];
        private int frame = 0;

        Runner(Figure figure, Workshop shop, Told told) {
            this.figure = figure;
            this.shop = shop;
            this.told = told;
        }

        void work(Figure done) {
            figure = done;
            told.clear();
            shop.things.clear();
            shop.frees.came = 0;
            values = 0;
            frame = 0;
            emptyNames();
            top = NONE;
            push(NONE);
            cursor[0] = figure.firstDeed;
            for (int i = 0; i < MOST_TURNS && inside(top, ROOM) && !told.spent; i++) {
                int child = cursor[top];
                if (child != NONE) {
                    cursor[top] = figure.nextOf(child);
                    enter(child);
                } else if (figure.typeOf(node[top]) == EXP_TOOL && inside(figure.dataOf(node[top]), TOOLS.length)) {
                    endPart(shop.use(TOOLS[figure.dataOf(node[top])], value, floor[top]));
                } else {
                    finish(node[top]);
                }
            }
        }

        private void emptyNames() {
            for (int i = 0; i < MOST_NAMES; i++) {
                hold(i, NONE);
            }
        }

        private void hold(int name, int thing) {
            int i = frame * MOST_NAMES + name;
            if (inside(name, MOST_NAMES) && inside(i, holds.length)) {
                holds[i] = thing;
            }
        }

        private int heldBy(int name) {
            int i = frame * MOST_NAMES + name;
            return inside(name, MOST_NAMES) && inside(i, holds.length) ? holds[i] : NONE;
        }

        private void push(int n) {
            if (!inside(top + 1, ROOM)) {
                told.spent = true;
                return;
            }
            top++;
            node[top] = n;
            cursor[top] = figure.firstOf(n);
            floor[top] = values;
            inBlock[top] = false;
            turns[top] = 0;
        }

        private void pushValue(int thing) {
            if (values >= 0 && values < ROOM) {
                value[values] = thing;
                values++;
            }
        }

        /** What part i of the entry on top came to. */
        private int valueAt(int i) {
            int v = inside(top, ROOM) ? floor[top] + i : NONE;
            return inside(v, values) ? value[v] : NONE;
        }

        private void drop() {
            if (top >= 0 && top < ROOM) {
                values = floor[top];
                top--;
            }
        }

        private void enter(int n) {
            if (!told.goOn()) {
                return;
            }
            int type = figure.typeOf(n);
            if (type == EXP_NUMBER) {
                pushValue(shop.things.addNumber(Reckoner.whole(figure.dataOf(n)), 0));
            } else if (type == EXP_NAME) {
                pushValue(heldBy(figure.dataOf(n)));
            } else {
                push(n);
                if (told.isFullOf(type)) {
                    fallDown(FAIL_ROOM);
                }
            }
        }

        /** The entry on top, a part of an exp, came to this, or failed. */
        private void endPart(int thing) {
            if (shop.reckoner.failure != WELL) {
                fallDown(shop.reckoner.failure);
            } else {
                drop();
                pushValue(thing);
            }
        }

        private void finish(int n) {
            int data = figure.dataOf(n);
            switch (figure.typeOf(n)) {
                case EXP_SIGN:
                    endPart(shop.between(data, valueAt(0), valueAt(1)));
                    break;
                case EXP_MINUS:
                    endPart(shop.negated(valueAt(0)));
                    break;
                case EXP_PLACE:
                    endPart(shop.picked(heldBy(data), valueAt(0)));
                    break;
                case EXP_MACRO:
                    finishCall(data);
                    break;
                case DEED_NAME:
                    hold(data, valueAt(0));
                    drop();
                    break;
                case DEED_PLACE:
                    shop.store(heldBy(data), valueAt(0), valueAt(1));
                    endDeed(shop.reckoner.failure);
                    break;
                case DEED_IF:
                    finishIf(n);
                    break;
                case DEED_TIMES:
                    finishTimes(n);
                    break;
                case DEED_STATE:
                    finishState(valueAt(0));
                    break;
                case DEED_DRAW:
                    finishDraw(valueAt(0));
                    break;
                case DEED_GIVE:
                    giveBack(valueAt(0));
                    break;
                default:
                    drop();
                    break;
            }
        }

        private void endDeed(int failure) {
            if (failure != WELL) {
                fallDown(failure);
            } else {
                drop();
            }
        }

        private void finishCall(int macro) {
            if (inBlock[top]) {
                leaveMacro(NONE);
            } else if (frame >= MOST_CALLS) {
                fallDown(FAIL_ROOM);
            } else {
                frame++;
                emptyNames();
                for (int i = 0; i < figure.paramsOf(macro); i++) {
                    hold(i, valueAt(i));
                }
                enterBlock(figure.macroBodyOf(macro));
            }
        }

        private void enterBlock(int deed) {
            if (inside(top, ROOM)) {
                values = floor[top];
                inBlock[top] = true;
                cursor[top] = deed;
            }
        }

        /** The CALL's entry is on top. */
        private void leaveMacro(int thing) {
            frame--;
            drop();
            pushValue(thing);
        }

        /** Leaves all blocks of the macro, up to its CALL. */
        private void giveBack(int thing) {
            while (top > 0 && !(inside(top, ROOM) && inBlock[top] && figure.typeOf(node[top]) == EXP_MACRO)) {
                top--;
            }
            leaveMacro(thing);
        }

        private void finishIf(int n) {
            if (inBlock[top]) {
                drop();
            } else if (!shop.accepts(valueAt(0), 'N')) {
                fallDown(shop.reckoner.failure);
            } else {
                boolean holdsTrue = shop.things.partOf(valueAt(0), 0) != Reckoner.NOUGHT;
                enterBlock(holdsTrue ? figure.bodyOf(n) : figure.otherOf(n));
            }
        }

        private void finishTimes(int n) {
            if (!inBlock[top]) {
                if (!shop.accepts(valueAt(0), 'W')) {
                    fallDown(shop.reckoner.failure);
                    return;
                }
                int many = shop.things.wholeOf(valueAt(0), 0);
                if (many < 0) {
                    fallDown(FAIL_SIZE);
                    return;
                }
                turns[top] = many;
            }
            if (turns[top] <= 0) {
                drop();
            } else if (told.goOn()) {
                turns[top]--;
                enterBlock(figure.bodyOf(n));
            }
        }

        private void finishState(int thing) {
            if (told.isFullOf(DEED_STATE)) {
                fallDown(FAIL_ROOM);
            } else if (!shop.accepts(thing, 'N')) {
                fallDown(shop.reckoner.failure);
            } else {
                told.addStated(shop.things.partOf(thing, 0) != Reckoner.NOUGHT ? 1 : 0);
                drop();
            }
        }

        private void finishDraw(int thing) {
            if (thing == NONE) {
                fallDown(FAIL_NOTHING);
            } else if (told.isFullOf(DEED_DRAW)) {
                fallDown(FAIL_ROOM);
            } else {
                told.addDrawn(thing);
                drop();
            }
        }

        /** The entry on top fails; the deed that it is, or is a part of, ends as by a FALL. */
        private void fallDown(int failure) {
            if (!inside(top, ROOM)) {
                return;
            }
            told.addFall(failure, figure.atOf(node[top]));
            if (told.spent) {
                return;
            }
            while (top > 0 && figure.typeOf(node[top]) > DEED_GIVE) {
                top--;
            }
            int deed = node[top];
            switch (figure.typeOf(deed)) {
                case DEED_NAME:
                    hold(figure.dataOf(deed), NONE);
                    drop();
                    break;
                case DEED_IF:
                    enterBlock(figure.otherOf(deed));
                    break;
                case DEED_STATE:
                    told.addStated(NONE);
                    drop();
                    break;
                case DEED_GIVE:
                    giveBack(NONE);
                    break;
                default:
                    drop();
                    break;
            }
        }
    }
}
