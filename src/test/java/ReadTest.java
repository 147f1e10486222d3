/** Promises 4 (read), 5 (place) and 6 (about), and section 1 of the document: TOKENS, grammar, FAULTS, limits. */
public final class ReadTest {
    private static final Due DUE = new Due("ReadTest");

    public static void main(String[] args) {
        tokens();
        standing();
        limitsOfNames();
        limitsOfNodes();
        limitsOfNesting();
        toldTwice();
        untold();
        arguments();
        orderOfFaults();
        about();
        faultChangesNothing();
        readingAnew();
        readingOften();
        DUE.end();
    }

    private static void reads(String text, int nodes) {
        FigureTexts x = new FigureTexts();
        Due.feed(x, text);
        DUE.is("read() of " + text, x.read(), nodes);
        DUE.is("place() of " + text, x.place(), FigureTexts.NONE);
    }

    private static void faults(String text, int fault, int place) {
        FigureTexts x = new FigureTexts();
        Due.feed(x, text);
        DUE.is("read() of " + text, x.read(), -fault);
        DUE.is("place() of " + text, x.place(), place);
    }

    private static void tokens() {
        reads("abcdefghij=1;", 2);
        faults("abcdefghijk=1;", 1, 0);
        reads("a=123456789;", 2);
        faults("a=1234567890;", 1, 2);
        reads("a=000000000;", 2);
        faults("a=1b;", 1, 2);
        faults("1a=1;", 1, 0);
        reads("a1b2=1;draw a1b2;", 4);
        faults("a=1$;", 1, 3);
        faults("A=1;", 1, 0);
        faults("a = 1;\t", 1, 6);
        faults("a = 1;\r\n", 1, 6);
        faults("a = 1;\u00e9", 1, 6);
        reads("\n a\n=\n1 ; \n", 2);
        reads("a=-1;b=--a;c=1=1;", 11);
        reads("a=1<2;b=a*a/a+a-a;", 14);
    }

    private static void standing() {
        reads("", 0);
        reads("   \n", 0);
        faults("a = 1", 2, 5);
        faults("a = 1  \n", 2, 8);
        faults("a = ;", 2, 4);
        faults("a 1;", 2, 2);
        faults("a;", 2, 1);
        faults("= 1;", 2, 0);
        faults("point(1, 2);", 2, 5);
        faults("a = 1 = 2 = 3;", 2, 10);
        faults("a = 1 < 2 < 3;", 2, 10);
        faults("a = (1;", 2, 6);
        faults("a = 1);", 2, 5);
        faults("a = mid(1,);", 2, 10);
        faults("a = mid(,1);", 2, 8);
        faults("a = +1;", 2, 4);
        faults("a = 1 2;", 2, 6);
        faults("a = if;", 2, 4);
        faults("draw draw;", 2, 5);
        faults("draw;", 2, 4);
        faults("}", 2, 0);
        faults("if 1 draw 1;", 2, 5);
        faults("if 1 {", 2, 6);
        faults("else {}", 2, 0);
        faults("if 1 {} else draw 1;", 2, 13);
        faults("if 1 {} else {} else {}", 2, 16);
        faults("times 2 {} else {}", 2, 11);
        faults("give 1;", 2, 0);
        faults("if 1 {give 1;}", 2, 6);
        reads("macro f() {give 1;}", 2);
        reads("macro f() {if 1 {give 1;}}", 4);
        faults("a = 1; macro f() {}", 2, 7);
        faults("macro f() {macro g() {}}", 2, 11);
        faults("macro if() {}", 2, 6);
        faults("macro 1() {}", 2, 6);
        faults("macro f {}", 2, 8);
        faults("macro f(1) {}", 2, 8);
        faults("macro f(p,) {}", 2, 10);
        faults("macro f(p q) {}", 2, 10);
        faults("macro f(give) {}", 2, 8);
        faults("macro f() draw 1;", 2, 10);
        faults("macro f() {", 2, 11);
        faults("macro", 2, 5);
        faults("a = row(1); a[0 1] = 1;", 2, 16);
        faults("a = row(1); a[0 = 1;", 2, 19);
        faults("a = row(1); a[0] 1;", 2, 17);
        faults("a = row(1); a[] = 1;", 2, 14);
        faults("a = row(1); draw a[0][0];", 2, 21);
        faults("draw 1[0];", 2, 6);
    }

    private static String names(int many) {
        StringBuilder text = new StringBuilder();
        for (int i = 0; i < many; i++) {
            text.append((char) ('a' + i)).append("=1;");
        }
        return text.toString();
    }

    private static String macros(int many) {
        StringBuilder text = new StringBuilder();
        for (int i = 0; i < many; i++) {
            text.append("macro m").append((char) ('a' + i)).append("(){}");
        }
        return text.toString();
    }

    private static void limitsOfNames() {
        reads(names(20), 40);
        reads(names(20) + "a=2;", 42);
        faults(names(21), 3, 80);
        faults(names(20) + "zz=yy;", 3, 80);
        faults(names(20) + "if 1{zz=1;}", 3, 85);
        faults(names(20) + "zz[0]=1;", 5, 80);
        faults(names(20) + "zz;", 2, 82);
        reads("macro f(){" + names(20) + "}" + names(20), 80);
        reads("macro f(w,x,y,z){" + names(16) + "}", 32);
        faults("macro f(w,x,y,z){" + names(17) + "}", 3, 17 + 64);
        reads("macro f(a,b,c,d){" + names(20) + "}", 40);
        reads("macro f(p,q,r,s){}", 0);
        faults("macro f(p,q,r,s,t){}", 3, 16);
        faults("macro f(p,q,r,s,p){}", 3, 16);
        faults("macro f(p,q,r,s,1){}", 2, 16);
        reads(macros(12), 0);
        faults(macros(13), 3, 12 * 12 - 6 + 12);
        faults(macros(12) + "macro ma(){}", 3, 12 * 12 + 6);
        faults(macros(12) + "macro mid(){}", 3, 12 * 12 + 6);
        faults(macros(12) + "macro if(){}", 2, 12 * 12 + 6);
    }

    private static void limitsOfNodes() {
        String half = Due.times(124, "draw 1;");
        reads(half + "draw 1;", 250);
        faults(half + "draw -1;", 3, 868 + 6);
        faults(half + "draw 1+1;", 3, 868 + 6);
        faults(half + "draw 1;draw 1;", 3, 868 + 7);
        faults(half + "draw 1;a=1;", 3, 868 + 7);
        faults(half + "draw 1;if 1{}", 3, 868 + 7);
        faults(half + "draw 1;give 1;", 2, 868 + 7);
        faults(half + "draw x(1);", 3, 868 + 7);
        faults(half + "draw -zz;", 3, 868 + 6);
        faults(half + "draw zz;", 5, 868 + 5);
        faults(half + "draw (1)+zz;", 3, 868 + 8);
        faults(half + "draw (1;", 2, 868 + 7);
        reads("a=1" + Due.times(123, "+1") + ";", 248);
        reads("a=" + Due.times(248, "-") + "1;", 250);
        faults("a=" + Due.times(249, "-") + "1;", 3, 251);
        faults("a=" + Due.times(250, "-") + "1;", 3, 251);
        reads("macro f(){" + Due.times(60, "give 1;") + "}" + Due.times(65, "draw 1;"), 250);
        faults("macro f(){" + Due.times(60, "give 1;") + "}" + Due.times(66, "draw 1;"), 3, 11 + 420 + 455);
    }

    private static void limitsOfNesting() {
        reads("a=" + Due.times(10, "(") + "1" + Due.times(10, ")") + ";", 2);
        faults("a=" + Due.times(11, "(") + "1" + Due.times(11, ")") + ";", 3, 12);
        reads("a=" + Due.times(10, "x(") + "1" + Due.times(10, ")") + ";", 12);
        faults("a=" + Due.times(11, "x(") + "1" + Due.times(11, ")") + ";", 3, 2 + 20 + 1);
        reads("a=1;b=" + Due.times(10, "a[") + "1" + Due.times(10, "]") + ";", 14);
        faults("a=1;b=" + Due.times(11, "a[") + "1" + Due.times(11, "]") + ";", 3, 6 + 20 + 1);
        reads(Due.times(10, "if 1{") + Due.times(10, "}"), 20);
        faults(Due.times(11, "if 1{") + Due.times(11, "}"), 3, 54);
        reads(Due.times(9, "times 1{") + "a=(1);" + Due.times(9, "}"), 20);
        faults(Due.times(9, "times 1{") + "a=((1));" + Due.times(9, "}"), 3, 75);
        faults("a=1;" + Due.times(10, "if 1{") + "a[1]=2;" + Due.times(10, "}"), 3, 4 + 50 + 1);
        reads("a=1;" + Due.times(9, "if 1{") + "a[1]=(2);" + Due.times(9, "}"), 23);
        faults("macro f(){" + Due.times(9, "if 1{") + "a=(1);" + Due.times(9, "}") + "}", 3, 10 + 45 + 2);
        faults(Due.times(9, "if 1{}else{") + "if 1{if 1{}}" + Due.times(9, "}"), 3, 99 + 9);
        reads("a=" + Due.times(20, "(1)+") + "1;" + Due.times(20, "if 1{}else{}"), 82);
    }

    private static void toldTwice() {
        faults("macro mid(){}", 4, 6);
        faults("macro f(){}macro f(){}", 4, 17);
        faults("macro f(p,p){}", 4, 10);
        faults("macro f(p, q, p) {}", 4, 14);
        reads("macro f(f){}macro g(f,g){}", 0);
        reads("macro f(mid){give mid;}", 2);
        reads("x=1;x=x;f=x;macr=f;", 8);
    }

    private static void untold() {
        faults("a = b;", 5, 4);
        faults("a = a;", 5, 4);
        faults("a[0] = 1;", 5, 0);
        faults("draw a[0];", 5, 5);
        faults("a = row(1); a[b] = 1;", 5, 14);
        faults("a = f(1);", 5, 4);
        faults("a = a(1);", 5, 4);
        faults("a = 1; b = a(1);", 5, 11);
        faults("a = mid;", 5, 4);
        faults("macro f(){give f();}", 5, 15);
        faults("macro f(){give g();}macro g(){}", 5, 15);
        reads("macro f(){give 1;}macro g(){give f();}", 4);
        faults("a = 1; macro", 2, 7);
        faults("macro f(p){}draw p;", 5, 17);
        faults("macro f(){a=1;}draw a;", 5, 20);
        faults("macro f(){a=1;}macro g(){draw a;}", 5, 30);
        reads("if 0 {a = 1;} draw a;", 6);
        reads("if 0 {a = 1;} else {draw a;}", 6);
        faults("if 0 {draw a;} else {a = 1;}", 5, 11);
        faults("a = $;", 1, 4);
        faults("a = b $;", 5, 4);
        faults("a = b(;", 5, 4);
        faults("a = if(1);", 2, 4);
    }

    private static void arguments() {
        faults("a = x();", 6, 4);
        faults("a = x(1, 2);", 6, 4);
        faults("a = mid(1);", 6, 4);
        faults("a = mid(1, 2, 3);", 6, 4);
        faults("a = cut(1, 2);", 6, 4);
        reads("a = cut(1, 2, 3);", 5);
        faults("macro f(p){}a=f();", 6, 14);
        faults("macro f(){}a=f(1);", 6, 13);
        reads("macro f(){}a=f();", 2);
        reads("macro f(p,q,r,s){}a=f(1,2,3,4);", 6);
        faults("a = mid(1, b);", 5, 11);
        faults("a = mid(1 2);", 2, 10);
        faults("a = mid(1;", 2, 9);
        faults("a = mid(1, x());", 6, 11);
        faults("a = mid(x());", 6, 8);
        faults("a = mid(1)$;", 6, 4);
        faults("a = mid(1", 2, 9);
        String[] ones = {"x", "y", "slope", "centre", "square", "half", "size", "none", "kind", "row", "points", "lines", "numbers"};
        for (String tool : ones) {
            reads("a=" + tool + "(1);", 3);
            faults("a=" + tool + "(1,1);", 6, 2);
        }
        String[] twos = {"point", "free", "line", "seg", "mid", "foot", "mirror", "turn", "par", "perp", "meet", "circle", "round",
            "power", "polar", "invert", "dist", "end", "on", "is", "flat", "right"};
        for (String tool : twos) {
            reads("a=" + tool + "(1,1);", 4);
            faults("a=" + tool + "(1,1,1);", 6, 2);
        }
        for (String tool : new String[] {"scale", "ring", "area", "cut"}) {
            reads("a=" + tool + "(1,1,1);", 5);
            faults("a=" + tool + "(1,1);", 6, 2);
        }
    }

    private static void orderOfFaults() {
        faults("a = b; $", 5, 4);
        faults("a = 1 $ b;", 1, 6);
        faults("a = mid(b, 1, 2);", 5, 8);
        faults("macro mid(p,p){}", 4, 6);
        faults(names(20) + "zz = $;", 3, 80);
    }

    private static void about() {
        FigureTexts x = Due.read("macro f(p){q=p;give q;}macro g(){}a=f(1);if a{b=-a+1;}else{times 2{c=b;}}");
        DUE.is("about(0)", x.about(0), 2);
        DUE.is("about(1)", x.about(1), 18);
        DUE.is("about(2)", x.about(2), 7);
        DUE.is("about(3)", x.about(3), 3);
        DUE.is("about(-1)", x.about(-1), FigureTexts.OUTSIDE);
        DUE.is("about(4)", x.about(4), FigureTexts.OUTSIDE);
        FigureTexts none = new FigureTexts();
        DUE.is("about(4) without a figure", none.about(4), FigureTexts.OUTSIDE);
        DUE.is("about(3) without a figure", none.about(3), FigureTexts.STATE);
    }

    private static void faultChangesNothing() {
        FigureTexts x = Due.run("a=free(1,2);draw a;state 1;draw 1/0;");
        x.move(0, 3, 4, 1);
        x.sweep(0, 1, 1, 1, 0);
        x.print();
        int out = x.count(8);
        Due.feed(x, "a = ;");
        DUE.is("a faulty text", x.read(), -2);
        DUE.is("its place", x.place(), 4);
        DUE.is("THE TAPE is empty", x.count(7), 0);
        DUE.is("THE OUT is as it was", x.count(8), out);
        DUE.is("the figure is the old one", x.about(1), 12);
        DUE.is("DRAWN as before", x.count(0), 1);
        DUE.is("STATED as before", Due.stated(x), "1");
        DUE.is("FALLS as before", Due.falls(x), "6@33");
        DUE.is("SWEPT as before", x.swept(1), 1);
        DUE.is("MOVED as before", x.loose(0), 1);
        DUE.is("it runs", x.run(), 1);
        DUE.is("place() stays", x.place(), 4);
    }

    private static void readingAnew() {
        FigureTexts x = Due.run("a=free(1,2);draw a;state 1;draw 1/0;");
        x.move(0, 3, 4, 1);
        x.move(11, 3, 4, 1);
        x.sweep(0, 1, 1, 1, 0);
        Due.feed(x, "a = ;");
        x.read();
        Due.feed(x, "draw free(5,6);");
        DUE.is("read() anew", x.read(), 4);
        DUE.is("place() without a fault", x.place(), FigureTexts.NONE);
        for (int what = 0; what <= 5; what++) {
            DUE.is("count(" + what + ") before a RUN", x.count(what), 0);
        }
        DUE.is("RUNS stay counted", x.count(6), 3);
        DUE.is("SWEPT is gone", x.swept(0), FigureTexts.NONE);
        DUE.is("FALLS are gone", x.fall(0, 0), FigureTexts.NONE);
        DUE.is("no FREE to sweep", x.sweep(0, 0, 0, 0, 0), FigureTexts.UNKNOWN);
        DUE.isOutOfBounds("DRAWN is gone", () -> x.kind(0));
        DUE.isOutOfBounds("STATED is gone", () -> x.stated(0));
        DUE.is("nothing is MOVED (0)", x.loose(0), 0);
        DUE.is("nothing is MOVED (11)", x.loose(11), 0);
        x.run();
        DUE.is("the new figure", Due.drawn(x), "(5, 6)");
    }

    /** What an earlier text left behind, faulty or not, is not seen in a later one. */
    private static void readingOften() {
        FigureTexts x = new FigureTexts();
        String[] texts = {"macro f(p,q){a=p;if q{give a;}else{give q;}}macro g(){}a=f(1,0);b=g();draw a;times 2{state a;}",
            "a=" + Due.times(11, "(") + "1", "macro f(p,p){}", "if 1{draw 2;}", "draw 1;if 0{}draw 3;", "macro h(z){z=z;give z;}draw h(4);",
            "if 1{if 1{if 1{draw ((((((1", "", "macro f(){}a=1;b=a;draw b;"};
        int[] answers = {20, -3, -4, 4, 6, 7, -2, 0, 6};
        String[] drawn = {"0", "0", "0", "2", "1 3", "4", "4", "", "1"};
        int[][] about = {{2, 20, 9, 2}, {2, 20, 9, 2}, {2, 20, 9, 2}, {0, 4, 2, 0}, {0, 6, 3, 0}, {1, 7, 3, 0}, {1, 7, 3, 0}, {0, 0, 0, 0}, {1, 6, 3, 2}};
        for (int round = 0; round < 3; round++) {
            for (int i = 0; i < texts.length; i++) {
                Due.feed(x, texts[i]);
                DUE.is("read() often of " + texts[i], x.read(), answers[i]);
                for (int what = 0; what < 4; what++) {
                    DUE.is("about(" + what + ") behind " + texts[i], x.about(what), about[i][what]);
                }
                x.run();
                DUE.is("drawn behind " + texts[i], Due.drawn(x), drawn[i]);
            }
        }
    }
}
