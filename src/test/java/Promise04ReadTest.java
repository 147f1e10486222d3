/** Promise 4: read. What texts are FIGURES, and which FAULTS there are, is asked in Section1TextsTest. */
public final class Promise04ReadTest {
    private static final Due DUE = new Due("Promise 4, read");

    public static void main(String[] args) {
        DUE.holds("how many NODES", Promise04ReadTest::howManyNodes);
        DUE.holds("0 less the number of its FAULT", Promise04ReadTest::lessTheFault);
        DUE.holds("an empty TAPE becomes a FIGURE without NODES", Promise04ReadTest::emptyTape);
        DUE.holds("a full TAPE becomes the FIGURE", Promise04ReadTest::fullTape);
        DUE.holds("as a whole (it is empty then)", Promise04ReadTest::tapeIsEmpty);
        DUE.holds("in place of the one there", Promise04ReadTest::inPlace);
        DUE.holds("what was RUN is gone", Promise04ReadTest::runIsGone);
        DUE.holds("what was SWEPT is gone", Promise04ReadTest::sweptIsGone);
        DUE.holds("nothing is MOVED", Promise04ReadTest::nothingIsMoved);
        DUE.holds("RUNS in all stay counted", Promise04ReadTest::runsStay);
        DUE.holds("a FAULT: nothing is changed but THE TAPE and place()", Promise04ReadTest::faultChangesNothing);
        DUE.holds("a FAULT without a FIGURE: there is none then either", Promise04ReadTest::faultWithoutFigure);
        DUE.holds("THE OUT stays", Promise04ReadTest::outStays);
        DUE.holds("texts one behind another", Promise04ReadTest::readingOften);
        DUE.holds("nothing is read behind the text's end", Promise04ReadTest::nothingBehindTheEnd);
        DUE.end();
    }

    private static void howManyNodes() {
        DUE.reads("draw 1;", 2);
        DUE.reads("a=-1+2*3;draw mid(a,a);", 11);
        DUE.reads(Due.times(125, "draw 1;"), 250);
    }

    private static void lessTheFault() {
        DUE.faults("$", 1, 0);
        DUE.faults(";", 2, 0);
        DUE.faults(Due.names(21), 3, 80);
        DUE.faults("macro x(){}", 4, 6);
        DUE.faults("draw a;", 5, 5);
        DUE.faults("draw x();", 6, 5);
    }

    private static void emptyTape() {
        FigureTexts x = new FigureTexts();
        DUE.is("read()", x.read(), 0);
        DUE.is("place()", x.place(), Due.NONE);
        for (int what = 0; what <= 3; what++) {
            DUE.is("about(" + what + ")", x.about(what), 0);
        }
        DUE.is("run()", x.run(), 0);
        DUE.is("print()", x.print(), 0);
        FigureTexts y = Due.run("draw 1;");
        DUE.is("read() of nothing in place of a FIGURE", y.read(), 0);
        DUE.is("run()", y.run(), 0);
    }

    private static void fullTape() {
        FigureTexts x = new FigureTexts();
        Due.feed(x, Due.times(2993, " ") + "draw 7;");
        DUE.is("count(7)", x.count(7), 3000);
        DUE.is("read()", x.read(), 2);
        x.run();
        DUE.is("DRAWN", Due.drawn(x), "7");
        DUE.faults(Due.times(2994, " ") + "draw 7", 2, 3000);
    }

    private static void tapeIsEmpty() {
        FigureTexts x = new FigureTexts();
        Due.feed(x, "draw 1;");
        x.read();
        DUE.is("count(7) behind a good text", x.count(7), 0);
        Due.feed(x, "draw ;");
        x.read();
        DUE.is("count(7) behind a faulty one", x.count(7), 0);
    }

    private static void inPlace() {
        FigureTexts x = Due.run("macro f(){}a=1;b=2;draw b;");
        Due.feed(x, "a=3;draw a;");
        DUE.is("read()", x.read(), 4);
        DUE.is("macros", x.about(0), 0);
        DUE.is("NAMES", x.about(3), 1);
        x.run();
        DUE.is("DRAWN", Due.drawn(x), "3");
    }

    private static void runIsGone() {
        FigureTexts x = Due.run("a=free(1,2);draw a;state 1;draw 1/0;");
        Due.feed(x, "draw free(5,6);");
        x.read();
        for (int what = 0; what <= 5; what++) {
            DUE.is("count(" + what + ")", x.count(what), 0);
        }
        DUE.is("fall(0, 0)", x.fall(0, 0), Due.NONE);
        DUE.is("no FREE to sweep", x.sweep(0, 0, 0, 0, 0), Due.UNKNOWN);
        DUE.throwsOutOfBounds("kind(0)", () -> x.kind(0));
        DUE.throwsOutOfBounds("number(0, 0, 0)", () -> x.number(0, 0, 0));
        DUE.throwsOutOfBounds("leans(0)", () -> x.leans(0));
        DUE.throwsOutOfBounds("stated(0)", () -> x.stated(0));
        DUE.throwsOutOfBounds("same(0, 0)", () -> x.same(0, 0));
        DUE.throwsOutOfBounds("write(0)", () -> x.write(0));
        FigureTexts y = Due.run("times 500{}");
        DUE.is("a RUN that ended SPENT", y.count(5), 1);
        y.read();
        DUE.is("is gone, too", y.count(5), 0);
    }

    private static void sweptIsGone() {
        FigureTexts x = Due.run("draw free(1,2);state 1;");
        DUE.is("sweep()", x.sweep(0, 1, 1, 20, 0), 21);
        Due.feed(x, "draw free(1,2);state 1;");
        x.read();
        for (int j = 0; j <= 20; j++) {
            DUE.is("swept(" + j + ")", x.swept(j), Due.NONE);
        }
    }

    private static void nothingIsMoved() {
        FigureTexts x = Due.read("draw free(1,2);");
        for (int k = 0; k < 12; k++) {
            x.move(k, 7, 7, 1);
        }
        Due.feed(x, "draw free(5,6);");
        x.read();
        x.run();
        DUE.is("DRAWN", Due.drawn(x), "(5, 6)");
        for (int k = 0; k < 12; k++) {
            DUE.is("loose(" + k + ")", x.loose(k), 0);
        }
    }

    private static void runsStay() {
        FigureTexts x = Due.run("draw free(1,2);state 1;");
        x.sweep(0, 1, 1, 3, 0);
        x.tried(1, 2, 0);
        DUE.is("count(6)", x.count(6), 7);
        Due.feed(x, "draw 1;");
        x.read();
        DUE.is("count(6) behind read()", x.count(6), 7);
        x.run();
        DUE.is("count(6) behind run()", x.count(6), 8);
    }

    private static void faultChangesNothing() {
        FigureTexts x = Due.run("a=free(1,2);draw a;state 1;draw 1/0;");
        x.move(0, 3, 4, 1);
        x.sweep(0, 1, 1, 1, 0);
        x.write(0);
        String[] faulty = {"a = $", "a = ;", Due.names(21), "macro mid(){}", "draw zz;", "draw x();"};
        int[] places = {4, 4, 80, 6, 5, 5};
        String before = Due.seenButPlace(x);
        for (int i = 0; i < faulty.length; i++) {
            Due.feed(x, faulty[i]);
            DUE.is("read() of " + faulty[i], x.read(), -1 - i);
            DUE.is("place()", x.place(), places[i]);
            DUE.is("what is seen but place()", Due.seenButPlace(x), before);
        }
        DUE.is("the FIGURE is the old one", x.about(1), 12);
        DUE.is("DRAWN as before", x.number(0, 0, 0), 2);
        DUE.is("SWEPT as before", x.swept(1), 1);
        DUE.is("MOVED as before", x.loose(0), 1);
        DUE.is("RUNS as before", x.count(6), 3);
        DUE.is("it runs", x.run(), 1);
    }

    private static void faultWithoutFigure() {
        FigureTexts x = Due.read("draw");
        DUE.is("place()", x.place(), 4);
        DUE.is("run()", x.run(), Due.STATE);
        DUE.is("about(1)", x.about(1), Due.STATE);
        DUE.is("print()", x.print(), Due.STATE);
    }

    private static void outStays() {
        FigureTexts x = Due.run("draw point(1,2);");
        x.write(0);
        Due.feed(x, "draw 5;");
        x.read();
        DUE.is("THE OUT", Due.out(x), "(1, 2)");
        Due.feed(x, "draw");
        x.read();
        DUE.is("THE OUT", Due.out(x), "(1, 2)");
    }

    /** What an earlier text left behind, faulty or not, is not seen in a later one. */
    private static void readingOften() {
        String[] texts = {"macro f(p,q){a=p;if q{give a;}else{give q;}}macro g(){}a=f(1,0);b=g();draw a;times 2{state a;}",
            "a=" + Due.times(11, "(") + "1", "macro f(p,p){}", "if 1{draw 2;}", "draw 1;if 0{}draw 3;", "macro h(z){z=z;give z;}draw h(4);",
            "if 1{if 1{if 1{draw ((((((1", "", "macro f(){}a=1;b=a;draw b;"};
        int[] answers = {20, -3, -4, 4, 6, 7, -2, 0, 6};
        String[] drawn = {"0", "0", "0", "2", "1 3", "4", "4", "", "1"};
        int[][] about = {{2, 20, 9, 2}, {2, 20, 9, 2}, {2, 20, 9, 2}, {0, 4, 2, 0}, {0, 6, 3, 0}, {1, 7, 3, 0}, {1, 7, 3, 0}, {0, 0, 0, 0}, {1, 6, 3, 2}};
        FigureTexts x = new FigureTexts();
        for (int round = 0; round < 2; round++) {
            for (int i = 0; i < texts.length; i++) {
                Due.feed(x, texts[i]);
                DUE.is("read() of " + texts[i], x.read(), answers[i]);
                for (int what = 0; what < 4; what++) {
                    DUE.is("about(" + what + ") behind " + texts[i], x.about(what), about[i][what]);
                }
                x.run();
                DUE.is("DRAWN behind " + texts[i], Due.drawn(x), drawn[i]);
            }
        }
    }

    private static void readsBehind(String longer, String text, int fault, int place) {
        FigureTexts x = new FigureTexts();
        for (int i = 0; i < 2; i++) {
            Due.feed(x, longer);
            DUE.is("whether the longer text is faulty", x.read() < 0, true);
            Due.feed(x, text);
            DUE.is("read() of " + text + " behind " + longer, x.read(), -fault);
            DUE.is("place() of " + text, x.place(), place);
        }
    }

    /** An earlier, longer text goes on where this one ends. */
    private static void nothingBehindTheEnd() {
        readsBehind("a=1;elsex=1;$", "a=1;else", 2, 4);
        readsBehind("macro f(){givex=1;$", "macro f(){give", 2, 14);
        readsBehind("a=1;draw ab;$", "a=1;draw a", 2, 10);
        readsBehind("a=1;draw a0;$", "a=1;draw a", 2, 10);
        readsBehind("macro x1(){}$", "macro x", 4, 6);
        readsBehind("a=12345;$$$$$", "a=12", 2, 4);
        readsBehind("a=1;;;;;;$", "a=1;", 0 - 2, Due.NONE);
        readsBehind("$$$$$$$$$$", "", 0, Due.NONE);
    }
}
