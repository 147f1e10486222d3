/** Promise 20: back. */
public final class Promise20BackTest {
    private static final Due DUE = new Due("Promise 20, back");

    public static void main(String[] args) {
        DUE.holds("THE OUT's bytes become THE TAPE: how many", Promise20BackTest::becomeTheTape);
        DUE.holds("in place of what THE TAPE had", Promise20BackTest::inPlace);
        DUE.holds("THE OUT stays", Promise20BackTest::outStays);
        DUE.holds("an empty OUT empties THE TAPE", Promise20BackTest::empty);
        DUE.holds("what is WRITTEN goes back, too", Promise20BackTest::written);
        DUE.holds("3000 bytes", Promise20BackTest::full);
        DUE.holds("STATE: they are more than 3000", Promise20BackTest::moreThanFull);
        DUE.end();
    }

    private static void becomeTheTape() {
        FigureTexts x = Due.read("a=1;draw a;");
        x.print();
        DUE.is("back()", x.back(), 15);
        DUE.is("count(7)", x.count(7), 15);
        DUE.is("read()", x.read(), 4);
        x.run();
        DUE.is("DRAWN", Due.drawn(x), "1");
    }

    private static void inPlace() {
        FigureTexts x = Due.read("draw 1;");
        x.print();
        Due.feed(x, "$$$$$$$$$$$$$$$$$$$$$$$$$$");
        DUE.is("back()", x.back(), 8);
        DUE.is("count(7)", x.count(7), 8);
        Due.feed(x, "draw 2;");
        DUE.is("read()", x.read(), 4);
    }

    private static void outStays() {
        FigureTexts x = Due.read("a=1;draw a;");
        x.print();
        x.back();
        DUE.is("THE OUT", Due.out(x), "a = 1;\ndraw a;\n");
        x.cut(3);
        DUE.is("back() again", x.back(), 15);
    }

    private static void empty() {
        FigureTexts x = new FigureTexts();
        Due.feed(x, "draw 1;");
        DUE.is("back()", x.back(), 0);
        DUE.is("count(7)", x.count(7), 0);
        DUE.is("read()", x.read(), 0);
    }

    private static void written() {
        FigureTexts x = Due.run("draw 12;");
        x.write(0);
        DUE.is("back()", x.back(), 2);
        DUE.is("a number alone is no FIGURE", x.read(), -2);
        DUE.is("place()", x.place(), 0);
        DUE.is("back()", x.back(), 2);
        x.cut(0);
        Due.feed(x, "draw ");
        DUE.is("count(7)", x.count(7), 5);
    }

    private static String text(String last) {
        return Due.times(10, "if 1{") + Due.times(95, "draw 1;") + "draw 12345678;draw " + last + ";" + Due.times(10, "}");
    }

    private static void full() {
        FigureTexts x = Due.read(text("12345678"));
        DUE.is("print()", x.print(), 3000);
        DUE.is("back()", x.back(), 3000);
        DUE.is("count(7)", x.count(7), 3000);
        DUE.is("feed()", x.feed(0, 0, 0, 0, 0), Due.STATE);
        DUE.is("read()", x.read(), 2 * 107);
    }

    private static void moreThanFull() {
        FigureTexts x = Due.read(text("123456789"));
        DUE.is("print()", x.print(), 3001);
        Due.feed(x, "draw 1;");
        DUE.refuses(x, "back()", x::back, Due.STATE);
        DUE.is("THE TAPE is as it was", x.read(), 2);
        DUE.is("THE OUT is as it was", x.count(8), 3001);
        x.print();
        DUE.is("back() of a shorter one", x.back(), 8);
    }
}
