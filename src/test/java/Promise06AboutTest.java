/** Promise 6: about. */
public final class Promise06AboutTest {
    private static final Due DUE = new Due("Promise 6, about");

    public static void main(String[] args) {
        DUE.holds("0 macros", Promise06AboutTest::macros);
        DUE.holds("1 NODES", Promise06AboutTest::nodes);
        DUE.holds("2 deeds (those in blocks, macros, too)", Promise06AboutTest::deeds);
        DUE.holds("3 the figure's own NAMES", Promise06AboutTest::names);
        DUE.holds("OUTSIDE", Promise06AboutTest::outside);
        DUE.holds("STATE: there is none", Promise06AboutTest::state);
        DUE.end();
    }

    private static void is(String text, int what, int due) {
        DUE.is("about(" + what + ") of " + text, Due.read(text).about(what), due);
    }

    private static void macros() {
        is("", 0, 0);
        is("draw 1;", 0, 0);
        is("macro f(){}", 0, 1);
        is(Due.macros(12, "(){}"), 0, 12);
    }

    private static void nodes() {
        is("", 1, 0);
        is("macro f(p,q){}", 1, 0);
        is("a=f;", 1, Due.STATE);
        is("macro f(p){give p;}a=f(1);", 1, 5);
        is(Due.times(125, "draw 1;"), 1, 250);
    }

    private static void deeds() {
        is("", 2, 0);
        is("macro f(){}", 2, 0);
        is("a=1;a=2;", 2, 2);
        is("if 1{draw 1;}else{draw 2;draw 3;}", 2, 4);
        is("times 2{times 3{state 1;}}", 2, 3);
        is("macro f(){give 1;}a=row(1);a[0]=1;", 2, 3);
        is(Due.times(125, "draw 1;"), 2, 125);
    }

    private static void names() {
        is("", 3, 0);
        is("draw 1;", 3, 0);
        is("a=1;b=2;a=3;", 3, 2);
        is("a=row(1);a[0]=a;", 3, 1);
        is("if 0{a=1;}else{times 1{b=1;}}", 3, 2);
        is("macro f(p,q){r=p;}a=1;", 3, 1);
        is("macro f(p,q){r=p;}", 3, 0);
        is(Due.names(20), 3, 20);
    }

    private static void outside() {
        FigureTexts x = Due.read("draw 1;");
        DUE.refuses(x, "about(-1)", () -> x.about(-1), Due.OUTSIDE);
        DUE.refuses(x, "about(4)", () -> x.about(4), Due.OUTSIDE);
        DUE.refuses(x, "about(least)", () -> x.about(Integer.MIN_VALUE), Due.OUTSIDE);
        DUE.refuses(x, "about(greatest)", () -> x.about(Integer.MAX_VALUE), Due.OUTSIDE);
    }

    private static void state() {
        FigureTexts x = new FigureTexts();
        for (int what = 0; what <= 3; what++) {
            DUE.is("about(" + what + ")", x.about(what), Due.STATE);
        }
        Due.feed(x, "draw");
        x.read();
        DUE.is("about(0) behind a FAULT", x.about(0), Due.STATE);
    }
}
