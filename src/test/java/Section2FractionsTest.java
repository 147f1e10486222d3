/** Section 2 of the document, FRACTIONS: least terms, LOST, ZERO, the order of reckoning, KINDS, NORMAL. */
public final class Section2FractionsTest {
    private static final Due DUE = new Due("Section 2, FRACTIONS");
    /** g is 1000000000, o the origin. */
    private static final String GIVEN = "g=999999999+1;o=point(0,0);";

    public static void main(String[] args) {
        DUE.holds("a top and a bottom in least terms", Section2FractionsTest::leastTerms);
        DUE.holds("the bottom above 0", Section2FractionsTest::bottomAbove);
        DUE.holds("+: LOST, if the size of its top is above 1000000000", Section2FractionsTest::lostByPlus);
        DUE.holds("-: LOST, if the size of its top is above 1000000000", Section2FractionsTest::lostByMinus);
        DUE.holds("*: LOST, if the size of its top or its bottom is above 1000000000", Section2FractionsTest::lostByTimes);
        DUE.holds("/: LOST, if the size of its top or its bottom is above 1000000000", Section2FractionsTest::lostByOver);
        DUE.holds("the negative of one is never LOST: its size is the same", Section2FractionsTest::negative);
        DUE.holds("the FRACTION that comes, in least terms, not what is reckoned on the way to it", Section2FractionsTest::onTheWay);
        DUE.holds("/ by 0 is ZERO", Section2FractionsTest::byNought);
        DUE.holds("from left to right", Section2FractionsTest::leftToRight);
        DUE.holds("* and / first", Section2FractionsTest::firstTimes);
        DUE.holds("one by one", Section2FractionsTest::oneByOne);
        DUE.holds("comparing is no reckoning: = < of the greatest FRACTIONS", Section2FractionsTest::comparing);
        DUE.holds("ROW, with a SORT and 0 to 20 places", Section2FractionsTest::rows);
        DUE.holds("places of a ROW, each a THING or nothing", Section2FractionsTest::places);
        DUE.holds("THINGS but ROWS never change", Section2FractionsTest::neverChange);
        DUE.holds("NORMAL: all three by a, if that is not 0", Section2FractionsTest::normalByA);
        DUE.holds("NORMAL: else by b", Section2FractionsTest::normalByB);
        DUE.holds("NORMAL: (ZERO, if both are 0)", Section2FractionsTest::normalZero);
        DUE.holds("a SEGMENT has two ends", Section2FractionsTest::ends);
        DUE.end();
    }

    private static void makes(String exp, String due) {
        DUE.does(GIVEN + "draw " + exp + ";", due, "", "");
    }

    /** The FALL is at the byte that is so far behind the exp's first one. */
    private static void fails(String exp, int failure, int behind) {
        DUE.does(GIVEN + "draw " + exp + ";", "", "", Due.fall(failure, GIVEN.length() + 5 + behind));
    }

    private static void leastTerms() {
        makes("2/4", "1/2");
        makes("6/3", "2");
        makes("0/7", "0");
        makes("1/6+1/3", "1/2");
        makes("3/4-1/4", "1/2");
        makes("2/3*3/2", "1");
        makes("999999999/3", "333333333");
        FigureTexts x = Due.run("draw 0/7;draw 1/2-1/2;");
        DUE.is("the bottom of 0", x.number(0, 0, 1) + x.number(1, 0, 1), 2);
    }

    private static void bottomAbove() {
        makes("1/-2", "-1/2");
        makes("-1/-2", "1/2");
        makes("0/-2", "0");
        makes("3/(1-5)", "-3/4");
        makes("1/-g", "-1/1000000000");
    }

    private static void lostByPlus() {
        makes("999999999+1", "1000000000");
        fails("999999999+2", Due.LOST, 9);
        fails("g+g", Due.LOST, 1);
        fails("g+1/g", Due.LOST, 1);
        makes("-g+0", "-1000000000");
        fails("-g+-1", Due.LOST, 2);
        makes("1/31622+1/31622", "1/15811");
        makes("1/31622+1/31623", "63245/999982506");
        fails("1/31623+1/31624", Due.LOST, 7);
        fails("1/g+1/3", Due.LOST, 3);
    }

    private static void lostByMinus() {
        makes("-999999999-1", "-1000000000");
        fails("-999999999-2", Due.LOST, 10);
        makes("g-g", "0");
        fails("-g-g", Due.LOST, 2);
        fails("g--1", Due.LOST, 1);
        fails("1/31623-1/31624", Due.LOST, 7);
        makes("1/31622-1/31623", "1/999982506");
    }

    private static void lostByTimes() {
        makes("500000000*2", "1000000000");
        fails("500000001*2", Due.LOST, 9);
        makes("-500000000*2", "-1000000000");
        fails("-500000001*2", Due.LOST, 10);
        makes("1/500000000*1/2", "1/1000000000");
        fails("(1/500000001)*(1/2)", Due.LOST, 13);
        fails("g*g", Due.LOST, 1);
        makes("g*(1/g)", "1");
        fails("(1/g)*(1/g)", Due.LOST, 5);
        makes("0*g", "0");
        makes("31622*31622", "999950884");
        fails("31623*31623", Due.LOST, 5);
    }

    private static void lostByOver() {
        makes("1/g", "1/1000000000");
        fails("1/g/2", Due.LOST, 3);
        makes("g/(1/1)", "1000000000");
        fails("g/(1/2)", Due.LOST, 1);
        fails("-g/(1/2)", Due.LOST, 2);
        makes("g/g", "1");
        makes("(1/g)/(1/g)", "1");
        fails("(1/g)/g", Due.LOST, 5);
        makes("1/(1/g)", "1000000000");
    }

    private static void negative() {
        makes("-g", "-1000000000");
        makes("--g", "1000000000");
        makes("-(1/g)", "-1/1000000000");
        makes("-0", "0");
    }

    private static void onTheWay() {
        makes("999999999/g+1/g", "1");
        makes("999999999/999999998*999999998", "999999999");
        makes("(999999999/g)*(g/999999999)", "1");
        makes("(999999999/g)-(999999999/g)", "0");
        makes("(999999998/999999999)/(999999998/999999999)", "1");
    }

    private static void byNought() {
        fails("1/0", Due.ZERO, 1);
        fails("0/0", Due.ZERO, 1);
        fails("g/(1-1)", Due.ZERO, 1);
        fails("1/0/0", Due.ZERO, 1);
        makes("0/1", "0");
    }

    private static void leftToRight() {
        makes("2-3-4", "-5");
        makes("2-3+4", "3");
        makes("8/4/2", "1");
        makes("8/4*2", "4");
        makes("8/(4/2)", "4");
        makes("2-(3-4)", "3");
    }

    private static void firstTimes() {
        makes("2+3*4", "14");
        makes("2*3+4", "10");
        makes("(2+3)*4", "20");
        makes("6-4/2", "4");
        makes("-2*3", "-6");
        makes("1+1=2", "1");
        makes("1<1+1", "1");
    }

    private static void oneByOne() {
        fails("g+1-1", Due.LOST, 1);
        makes("g-1+1", "1000000000");
        fails("g*2/2", Due.LOST, 1);
        makes("g/2*2", "1000000000");
        fails("999999999*999999999/999999999", Due.LOST, 9);
        makes("999999999/999999999*999999999", "999999999");
        fails("0*(g+1)", Due.LOST, 4);
        fails("g+1=g+1", Due.LOST, 1);
    }

    private static void comparing() {
        makes("g=g", "1");
        makes("-g<g", "1");
        makes("g<-g", "0");
        makes("999999999/g<g", "1");
        makes("999999998/999999999<999999999/g", "1");
        makes("999999999/g<999999998/999999999", "0");
        makes("1/g<0", "0");
        makes("-1/g<0", "1");
        makes("1/g=1/999999999", "0");
    }

    private static void rows() {
        for (String tool : new String[] {"row", "points", "lines", "numbers"}) {
            makes(tool + "(0)", "{0}");
            makes(tool + "(20)", "{20}");
            fails(tool + "(21)", Due.ROOM, 0);
            fails(tool + "(-1)", Due.SIZE, 0);
        }
    }

    private static void places() {
        DUE.does("w=row(20);k=0;times 20{state none(w[k]);k=k+1;}", "", Due.times(19, "1 ") + "1", "");
        DUE.does("w=row(2);w[1]=7;state none(w[0]);state none(w[1]);w[1]=w[0];state none(w[1]);", "", "1 0 1", "");
        DUE.does("w=row(20);k=0;times 20{w[k]=k;k=k+1;}draw w[0];draw w[10];draw w[19];", "0 10 19", "", "");
    }

    private static void neverChange() {
        DUE.does("a=1;b=a;a=2;draw b;p=point(1,2);q=p;p=point(3,4);draw q;w=row(1);v=w;v[0]=5;draw w[0];", "1 (1, 2) 5", "", "");
        DUE.does("w=row(1);w[0]=1;a=w[0];w[0]=2;draw a;draw w[0];", "1 2", "", "");
        DUE.does("w=row(1);w[0]=w;v=w[0];state is(v,w);v[0]=3;draw w[0];", "3", "1", "");
    }

    private static void normalByA() {
        makes("line(o,point(1,2))", "[1, -1/2, 0]");
        makes("line(point(5,0),point(5,9))", "[1, 0, 5]");
        makes("line(point(1,2),point(4,6))", "[1, -3/4, -1/2]");
        makes("line(point(4,6),point(1,2))", "[1, -3/4, -1/2]");
    }

    private static void normalByB() {
        makes("line(point(0,3),point(5,3))", "[0, 1, 3]");
        makes("line(point(5,3),point(0,3))", "[0, 1, 3]");
        makes("perp(point(5,-1),line(o,point(0,1)))", "[0, 1, -1]");
    }

    private static void normalZero() {
        fails("line(o,o)", Due.ZERO, 0);
        fails("seg(o,o)", Due.ZERO, 0);
        fails("polar(o,round(o,1))", Due.ZERO, 0);
        fails("line(point(1/2,1/3),point(1/2,1/3))", Due.ZERO, 0);
    }

    private static void ends() {
        makes("end(seg(o,point(1,2)),0)", "(0, 0)");
        makes("end(seg(o,point(1/2,2/3)),1)", "(1/2, 2/3)");
    }
}
