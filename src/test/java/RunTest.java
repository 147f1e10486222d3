/** Promises 9 (run), 10 (count), 14 (stated), 15 (fall), and section 4 of the document: deeds, FALLS, macros, STEPS. */
public final class RunTest {
    private static final int NOTHING = 1, CAST = 2, INDEX = 3, SIZE = 4, ZERO = 6, ROOM = 9;
    private static final int NONE = FigureTexts.NONE;
    private static final Due DUE = new Due("RunTest");

    public static void main(String[] args) {
        names();
        places();
        ifs();
        times();
        states();
        draws();
        macros();
        giving();
        callsWithinCalls();
        steps();
        spentBySteps();
        spentByFalls();
        runningBehindSpent();
        roomForTold();
        roomWithinTold();
        counts();
        outside();
        DUE.end();
    }

    private static void does(String text, String drawn, String stated, String falls) {
        FigureTexts x = Due.read(text);
        DUE.is("read() of " + text, x.place(), NONE);
        DUE.is("run() of " + text, x.run(), x.count(0));
        DUE.is("drawn by " + text, Due.drawn(x), drawn);
        DUE.is("stated by " + text, Due.stated(x), stated);
        DUE.is("falls of " + text, Due.falls(x), falls);
    }

    private static String fall(int failure, int at) {
        return failure + "@" + at;
    }

    private static void names() {
        does("a=1;b=a;a=2;draw a;draw b;", "2 1", "", "");
        does("a=1;a=1/0;draw none(a);", "1", "", fall(ZERO, 7));
        does("if 0{a=1;}draw none(a);b=a;draw none(b);", "1 1", "", "");
        does("if 0{a=1;}draw a;", "", "", fall(NOTHING, 10));
        does("x=3;row=x;draw x;draw x(point(row,1));", "3 3", "", "");
    }

    private static void places() {
        does("w=row(2);w[0]=5;w[1]=w[0]+1;draw w[0];draw w[1];", "5 6", "", "");
        does("w=row(2);v=w;v[0]=5;draw w[0];w[0]=w[1];draw none(v[0]);", "5 1", "", "");
        does("if 0{w=1;}w[1/0]=1;", "", "", fall(ZERO, 13));
        does("if 0{w=1;}w[0]=1/0;", "", "", fall(ZERO, 16));
        does("if 0{w=1;}w[w]=w;", "", "", fall(NOTHING, 10));
        does("w=1;w[0]=w;", "", "", fall(CAST, 4));
        does("w=numbers(2);w[w[0]]=w;", "", "", fall(NOTHING, 13));
        does("w=numbers(2);w[w]=w;", "", "", fall(CAST, 13));
        does("w=numbers(2);w[1/2]=w;", "", "", fall(CAST, 13));
        does("w=numbers(2);w[2]=w;", "", "", fall(INDEX, 13));
        does("w=numbers(2);w[-1]=w;", "", "", fall(INDEX, 13));
        does("w=numbers(2);w[1]=w;", "", "", fall(5, 13));
        does("w=numbers(2);w[1]=1;w[1]=w;draw w[1];", "1", "", fall(5, 20));
    }

    private static void ifs() {
        does("if 1{draw 1;}else{draw 2;}", "1", "", "");
        does("if -1/2{draw 1;}else{draw 2;}", "1", "", "");
        does("if 0{draw 1;}else{draw 2;}", "2", "", "");
        does("if 0{draw 1;}draw 3;", "3", "", "");
        does("if 1/0{draw 1;}else{draw 2;}draw 3;", "2 3", "", fall(ZERO, 4));
        does("a=1;if point(1,1){draw 1;}else{draw 2;}", "2", "", fall(CAST, 4));
        does("if 0{a=1;}if a{draw 1;}else{draw 2;}", "2", "", fall(NOTHING, 10));
        does("if 0{a=1;}if a{draw 1;}draw 3;", "3", "", fall(NOTHING, 10));
    }

    private static void times() {
        does("a=0;times 3{a=a+1;draw a;}", "1 2 3", "", "");
        does("times 0{draw 1;}draw 2;", "2", "", "");
        does("a=2;times a{a=5;draw a;}", "5 5", "", "");
        does("times 2{times 3{draw 1;}draw 2;}", "1 1 1 2 1 1 1 2", "", "");
        does("draw 1;times -1{draw 1;}", "1", "", fall(SIZE, 7));
        does("draw 1;times 1/2{draw 1;}", "1", "", fall(CAST, 7));
        does("draw 1;times row(1){draw 1;}", "1", "", fall(CAST, 7));
        does("if 0{a=1;}times a{draw 1;}draw 2;", "2", "", fall(NOTHING, 10));
        does("times 1/0{draw 1;}draw 2;", "2", "", fall(ZERO, 7));
    }

    private static void states() {
        does("state 1;state 0;state -3/4;state 1=1;state 1<1;", "", "1 0 1 1 0", "");
        does("state 1/0;state 1;", "", "-1 1", fall(ZERO, 7));
        does("state point(1,1);", "", "-1", fall(CAST, 0));
        does("if 0{a=1;}state a;", "", "-1", fall(NOTHING, 10));
    }

    private static void draws() {
        does("draw 1;draw 1/0;draw 2;", "1 2", "", fall(ZERO, 13));
        does("if 0{a=1;}draw a;draw 3;", "3", "", fall(NOTHING, 10));
        does("a=1;draw a;draw a;a=2;draw a;", "1 1 2", "", "");
    }

    private static void macros() {
        does("macro f(p,q){r=p+q;give r*r;}draw f(1,2);draw f(f(1,0),2);", "9 9", "", "");
        does("macro f(p){q=p;}draw none(f(1));", "1", "", "");
        does("macro f(){give 7;}f=f();draw f;", "7", "", "");
        does("macro f(p){p=p+1;give p;}p=1;draw f(p);draw p;", "2 1", "", "");
        does("macro f(p){if p{q=p;}give none(q);}draw f(1);draw f(0);", "0 1", "", "");
        does("macro f(p){give none(p);}if 0{a=1;}draw f(a);", "1", "", "");
        does("macro f(w){w[0]=9;}w=row(1);a=f(w);draw w[0];", "9", "", "");
        does("macro f(p){draw p;state p;}a=f(4);draw 5;", "4 5", "1", "");
        does("macro f(p){draw 1/p;give p;}draw f(0);", "0", "", fall(ZERO, 17));
        does("macro f(p){give p;}draw f(1/0);", "", "", fall(ZERO, 27));
        does("macro f(p){state p;give p;}state f(0)+1;", "", "0 1", "");
    }

    private static void giving() {
        does("macro f(){give 1;draw 2;}draw f();", "1", "", "");
        does("macro f(){give 1/0;draw 2;}draw none(f());", "1", "", fall(ZERO, 16));
        does("macro f(){times 5{if 1{give 3;}draw 4;}draw 5;}draw f()+1;", "4", "", "");
        does("macro f(){if 1/0{draw 1;}else{times 3{give 6;}}}draw 1+f()*2;", "13", "", fall(ZERO, 14));
        does("macro f(p){if p{give p;}}draw f(2);draw none(f(0));", "2 1", "", "");
        does("macro f(){give none(1);}draw f();", "0", "", "");
        does("macro f(p){give p;}macro g(p){a=1+f(p);give a+f(a);}draw g(3);", "8", "", "");
    }

    /** Macro i calls the one ahead of it, so that i others are within it. */
    private static String chain(int many) {
        StringBuilder text = new StringBuilder("macro ma(){give 1;}");
        for (int i = 1; i < many; i++) {
            text.append("macro m").append((char) ('a' + i)).append("(){give m").append((char) ('a' + i - 1)).append("()+1;}");
        }
        return text.toString();
    }

    private static void callsWithinCalls() {
        String eight = chain(8);
        does(eight + "draw mh();", "8", "", "");
        String nine = chain(9);
        int inner = nine.indexOf("ma()+1");
        int adding = nine.indexOf("mb()+1");
        DUE.is("a chain of calls", inner < adding, true);
        FigureTexts x = Due.run(nine + "draw none(mi());");
        DUE.is("a ninth within eight others", x.fall(0, 0), ROOM);
        DUE.is("its byte", x.fall(0, 1), inner);
        DUE.is("then nothing comes, and sums of it fall", x.count(2), 8);
        DUE.is("the first such sum", x.fall(1, 0), NOTHING);
        DUE.is("its byte", x.fall(1, 1), adding + 4);
        DUE.is("what comes at last", Due.drawn(x), "1");
        does("macro f(p){give p+1;}draw f(f(f(f(f(f(f(f(f(f(0))))))))));", "10", "", "");
        does(eight + "macro f(p,q){give p+q;}draw f(mh(),mh());", "16", "", "");
    }

    private static void takes(String text, int steps) {
        DUE.is("STEPS of " + text, Due.run(text).count(4), steps);
    }

    private static void steps() {
        takes("", 0);
        takes("a=1;", 2);
        takes("a=-1+2*3;", 7);
        takes("a=row(1);a[0]=1;draw a[0];", 9);
        takes("if 1{a=1;}", 4);
        takes("if 0{a=1;}", 2);
        takes("if 0{a=1;}else{}", 2);
        takes("times 0{}", 2);
        takes("times 5{}", 7);
        takes("times 3{a=1;}", 11);
        takes("macro f(p){give p;}draw f(1);", 5);
        takes("a=1/0+2;", 5);
        takes("a=2+1/0;", 6);
        takes("a=(1/0)*2+3-4;", 7);
        takes("a=-(1/0);", 5);
        takes("a=mid(1/0,1);", 5);
        takes("a=mid(1,1/0);", 6);
        takes("a=row(1);a[1/0]=1;", 7);
        takes("macro f(p){give 1/0;draw 1;}draw none(f(1));", 8);
    }

    private static void spentBySteps() {
        FigureTexts x = Due.read("draw 5;state 1;times 394{}");
        DUE.is("run() in 400 STEPS", x.run(), 1);
        DUE.is("its STEPS", x.count(4), 400);
        DUE.is("it did not end SPENT", x.count(5), 0);
        FigureTexts y = Due.read("draw 5;state 1;times 395{}draw 6;");
        DUE.is("run() of more STEPS", y.run(), NONE);
        DUE.is("its STEPS", y.count(4), 400);
        DUE.is("it ended SPENT", y.count(5), 1);
        DUE.is("DRAWN stays", Due.drawn(y), "5");
        DUE.is("STATED stays", Due.stated(y), "1");
        DUE.is("no FALL", y.count(2), 0);
        FigureTexts z = Due.read("times 396{}state 1+1;");
        DUE.is("run() that ends in a state", z.run(), NONE);
        DUE.is("nothing is STATED", z.count(1), 0);
        FigureTexts w = Due.read("times 396{}state 1;");
        DUE.is("run() that ends just with a state", w.run(), 0);
        DUE.is("it is STATED", Due.stated(w), "1");
        DUE.is("many turns", Due.read("times 999999999{}").run(), NONE);
        DUE.is("turns within turns", Due.read("times 99{times 99{times 99{a=1;}}}").run(), NONE);
        FigureTexts deep = Due.read("a=" + Due.times(248, "-") + "1;");
        DUE.is("a long row of -", deep.run(), 0);
        DUE.is("its STEPS", deep.count(4), 250);
    }

    private static void spentByFalls() {
        FigureTexts x = Due.read("times 11{state 1/0;}draw 1;");
        DUE.is("run() with 11 FALLS", x.run(), 1);
        DUE.is("11 FALLS", x.count(2), 11);
        DUE.is("11 STATED", x.count(1), 11);
        DUE.is("it did not end SPENT", x.count(5), 0);
        FigureTexts y = Due.read("draw 7;times 12{state 1/0;}draw 1;");
        DUE.is("run() with 12 FALLS", y.run(), NONE);
        DUE.is("12 FALLS", y.count(2), 12);
        DUE.is("that deed STATES nothing", y.count(1), 11);
        DUE.is("it ended SPENT", y.count(5), 1);
        DUE.is("DRAWN stays", Due.drawn(y), "7");
        DUE.is("STEPS up to there", y.count(4), 2 + 2 + 12 * 5);
        DUE.is("the last FALL", y.fall(11, 0), ZERO);
        DUE.is("its byte", y.fall(11, 1), 23);
        DUE.is("fall(12, 0)", y.fall(12, 0), NONE);
        FigureTexts z = Due.run("times 11{a=1/0;}if 1/0{}else{draw 1;}");
        DUE.is("an if that falls as the 12th", z.count(0), 0);
    }

    /** A RUN that ended SPENT, deep in macros and exps, leaves nothing behind for later ones. */
    private static void runningBehindSpent() {
        String text = "macro g(p){times p{}give p;}" + chain(6) + "macro f(p){n=4;give 1+(2+(n+mf()*g(p)));}"
            + "a=free(1,0);b=7;draw 1+f(x(a))+b;state is(b,7);";
        FigureTexts x = Due.read(text);
        DUE.is("first", x.run(), 1);
        DUE.is("what it draws", Due.drawn(x), "21");
        for (int i = 0; i < 100; i++) {
            x.move(0, 999, 0, 1);
            DUE.is("SPENT", x.run(), NONE);
            DUE.is("nothing is DRAWN", x.count(0), 0);
        }
        x.loose(0);
        DUE.is("behind them", x.run(), 1);
        DUE.is("it is not SPENT", x.count(5), 0);
        DUE.is("what it draws", Due.drawn(x), "21");
        DUE.is("what it states", Due.stated(x), "1");
        DUE.is("its FALLS", x.count(2), 0);
    }

    private static void roomForTold() {
        FigureTexts x = Due.read("times 40{draw 1;}draw 1/0;draw 2;state 1;");
        DUE.is("run() with 40 DRAWN", x.run(), 40);
        DUE.is("FALLS of more", Due.falls(x), fall(ROOM, 17) + " " + fall(ROOM, 26));
        DUE.is("STEPS without the exps", x.count(4), 2 + 40 * 3 + 2 + 2);
        DUE.is("STATED has room of its own", Due.stated(x), "1");
        FigureTexts y = Due.read("times 39{state 0;}state 1/0;state 1/0;draw 1;");
        DUE.is("run() with 40 STATED", y.run(), 1);
        DUE.is("40 STATED", y.count(1), 40);
        DUE.is("the 40th", y.stated(39), NONE);
        DUE.is("FALLS", Due.falls(y), fall(ZERO, 25) + " " + fall(ROOM, 28));
        DUE.isOutOfBounds("stated(40)", () -> y.stated(40));
    }

    /** The room may be filled by what a draw's, a state's own exp does. */
    private static void roomWithinTold() {
        FigureTexts x = Due.run("macro f(){draw 2;give 3;}times 39{draw 1;}draw f();");
        DUE.is("40 DRAWN", x.count(0), 40);
        DUE.is("the last of them", x.number(39, 0, 0), 2);
        DUE.is("the FALL", Due.falls(x), fall(ROOM, 42));
        FigureTexts y = Due.run("macro f(){state 0;give 3;}times 39{state 1;}state f();");
        DUE.is("40 STATED", y.count(1), 40);
        DUE.is("the last of them", y.stated(39), 0);
        DUE.is("the FALL", Due.falls(y), fall(ROOM, 44));
    }

    private static void counts() {
        FigureTexts x = Due.run("f=free(1,1);g=free(2,2);draw f;draw g;draw 1;state 1;draw 1/0;");
        int[] due = {3, 1, 1, 2, 20, 0, 1, 0, 0};
        for (int what = 0; what < due.length; what++) {
            DUE.is("count(" + what + ")", x.count(what), due[what]);
        }
        x.print();
        Due.feed(x, "abc");
        x.run();
        DUE.is("RUNS", x.count(6), 2);
        DUE.is("bytes of THE TAPE", x.count(7), 3);
        DUE.is("bytes of THE OUT", x.count(8), 16 * 2 + 8 * 3 + 9 + 12);
        DUE.is("count(-1)", x.count(-1), FigureTexts.OUTSIDE);
        DUE.is("count(9)", x.count(9), FigureTexts.OUTSIDE);
    }

    private static void outside() {
        FigureTexts x = Due.run("state 1;state 1/0;");
        DUE.is("stated(0)", x.stated(0), 1);
        DUE.is("stated(1)", x.stated(1), NONE);
        DUE.isOutOfBounds("stated(2)", () -> x.stated(2));
        DUE.isOutOfBounds("stated(-1)", () -> x.stated(-1));
        DUE.is("fall(0, 0)", x.fall(0, 0), ZERO);
        DUE.is("fall(0, 1)", x.fall(0, 1), 15);
        DUE.is("fall(1, 0)", x.fall(1, 0), NONE);
        DUE.is("fall(-1, 1)", x.fall(-1, 1), NONE);
        DUE.is("fall(0, 2)", x.fall(0, 2), FigureTexts.OUTSIDE);
        DUE.is("fall(0, -1)", x.fall(0, -1), FigureTexts.OUTSIDE);
        DUE.is("fall(9, 9)", x.fall(9, 9), FigureTexts.OUTSIDE);
    }
}
