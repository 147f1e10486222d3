/** Sections 2 and 3 of the document: FRACTIONS, THINGS, what each TOOL makes and how it FAILS (promises 9, 11, 12, 15, 18). */
public final class ToolsTest {
    private static final int NOTHING = 1, CAST = 2, INDEX = 3, SIZE = 4, STORE = 5, ZERO = 6, LOST = 7, ABSENT = 8, ROOM = 9;
    private static final Due DUE = new Due("ToolsTest");
    /** THINGS to work with; n holds nothing. */
    private static final String GIVEN = "o=point(0,0);p=point(1,2);q=point(4,6);r=point(5,-1);l=line(p,q);m=line(o,point(1,0));"
        + "v=line(o,point(0,1));s=seg(p,q);d=round(o,25);w=row(3);n=w[0];";

    public static void main(String[] args) {
        numbers();
        comparisons();
        points();
        lines();
        circles();
        measures();
        cuts();
        truths();
        rows();
        orderOfAsking();
        orderOfReckoning();
        DUE.end();
    }

    private static void makes(String exp, String written) {
        FigureTexts x = Due.run(GIVEN + "draw " + exp + ";");
        DUE.is("draw " + exp, Due.drawn(x), written);
        DUE.is("FALLS of draw " + exp, Due.falls(x), "");
    }

    private static void makes(String exp, int kind, String written) {
        makes(exp, written);
        DUE.is("KIND of " + exp, Due.run(GIVEN + "draw " + exp + ";").kind(0), kind);
    }

    /** The FALL is at the byte that is so far behind the exp's first one. */
    private static void fails(String exp, int failure, int behind) {
        FigureTexts x = Due.run(GIVEN + "draw " + exp + ";");
        DUE.is("FALLS of draw " + exp, Due.falls(x), failure + "@" + (GIVEN.length() + 5 + behind));
        DUE.is("DRAWN of " + exp, x.count(0), 0);
    }

    private static void numbers() {
        makes("1/2+1/3", 0, "5/6");
        makes("1/2-1/2", "0");
        makes("-3/6", "-1/2");
        makes("3/-6", "-1/2");
        makes("-3/-6", "1/2");
        makes("2+3*4", "14");
        makes("(2+3)*4", "20");
        makes("2-3-4", "-5");
        makes("8/4/2", "1");
        makes("8/(4/2)", "4");
        makes("--5", "5");
        makes("-2*3", "-6");
        makes("0/5", "0");
        makes("000", "0");
        makes("999999999+1", "1000000000");
        fails("999999999+2", LOST, 9);
        makes("-999999999-1", "-1000000000");
        fails("-999999999-2", LOST, 10);
        makes("1/(999999999+1)", "1/1000000000");
        fails("1/(999999999+1)/2", LOST, 15);
        fails("1/999999999+1/999999998", LOST, 11);
        makes("999999999/999999998*999999998", "999999999");
        fails("999999999*999999999/999999999", LOST, 9);
        makes("999999999/999999999*999999999", "999999999");
    }

    private static void comparisons() {
        makes("1=1", 0, "1");
        makes("1=2", "0");
        makes("1/2=2/4", "1");
        makes("1/3<1/2", "1");
        makes("1/2<1/2", "0");
        makes("1/2<1/3", "0");
        makes("-1<0", "1");
        makes("999999999/999999998<999999998/999999997", "1");
        makes("(1<2)=1", "1");
        fails("p=p", CAST, 1);
        fails("1<p", CAST, 1);
        fails("n=1", NOTHING, 1);
        fails("p+n", CAST, 1);
        fails("n+p", NOTHING, 1);
        fails("1+n", NOTHING, 1);
        fails("-p", CAST, 0);
        fails("-n", NOTHING, 0);
        fails("1+-p", CAST, 2);
        fails("1/0", ZERO, 1);
        fails("1/(1-1)+p", ZERO, 1);
    }

    private static void points() {
        makes("point(1/2,-3)", 1, "(1/2, -3)");
        makes("free(1/2,-3)", 2, "(1/2, -3)");
        makes("mid(p,q)", 1, "(5/2, 4)");
        makes("foot(o,l)", 1, "(-8/25, 6/25)");
        makes("foot(q,m)", "(4, 0)");
        makes("foot(q,v)", "(0, 6)");
        makes("mirror(q,m)", 1, "(4, -6)");
        makes("mirror(q,v)", "(-4, 6)");
        makes("mirror(o,l)", "(-16/25, 12/25)");
        makes("turn(q,p)", 1, "(-3, 5)");
        makes("turn(p,o)", "(-2, 1)");
        makes("meet(m,v)", 1, "(0, 0)");
        makes("meet(l,m)", "(-1/2, 0)");
        fails("meet(m,par(p,m))", ZERO, 0);
        fails("meet(l,s)", ZERO, 0);
        makes("scale(q,p,2)", 1, "(7, 10)");
        makes("scale(q,p,-1/2)", "(-1/2, 0)");
        makes("invert(p,d)", 1, "(5, 10)");
        makes("invert(point(3,4),d)", "(3, 4)");
        fails("invert(o,d)", ZERO, 0);
        makes("invert(q,round(point(1,3),9))", "(5/2, 9/2)");
        makes("centre(round(q,1))", 1, "(4, 6)");
        makes("meet(line(centre(round(q,1)),mid(o,r)),m)", "(34/13, 0)");
        makes("mid(mid(p,q),centre(d))", "(5/4, 2)");
        makes("end(s,0)", 1, "(1, 2)");
        makes("end(s,1)", "(4, 6)");
        makes("end(seg(q,p),0)", "(4, 6)");
        fails("end(s,2)", INDEX, 0);
        fails("end(s,-1)", INDEX, 0);
        fails("end(s,1/2)", INDEX, 0);
        fails("end(l,0)", CAST, 0);
        fails("mid(point(999999999,0),point(999999999,0))", LOST, 0);
    }

    private static void lines() {
        makes("line(p,q)", 3, "[1, -3/4, -1/2]");
        makes("line(q,p)", "[1, -3/4, -1/2]");
        makes("m", "[0, 1, 0]");
        makes("v", "[1, 0, 0]");
        makes("line(point(0,3),point(5,3))", "[0, 1, 3]");
        fails("line(p,p)", ZERO, 0);
        makes("seg(p,q)", 4, "[1, -3/4, -1/2]");
        fails("seg(q,q)", ZERO, 0);
        makes("par(r,l)", 3, "[1, -3/4, 23/4]");
        makes("par(r,s)", 3, "[1, -3/4, 23/4]");
        makes("perp(r,l)", 3, "[1, 4/3, 11/3]");
        makes("perp(r,m)", "[1, 0, 5]");
        makes("perp(r,v)", "[0, 1, -1]");
        makes("half(s)", 3, "[1, 4/3, 47/6]");
        fails("half(l)", CAST, 0);
        makes("half(seg(o,point(4,0)))", "[1, 0, 2]");
        makes("polar(point(5,5),d)", 3, "[1, 1, 5]");
        makes("polar(point(3,4),round(p,5))", "[1, 1, 11/2]");
        fails("polar(o,d)", ZERO, 0);
        FigureTexts x = Due.run("draw seg(point(1/2,3),point(4,-5));");
        long[] tops = {1, 7, 29, 1, 3, 4, -5};
        long[] bottoms = {1, 16, 16, 2, 1, 1, 1};
        for (int part = 0; part < 7; part++) {
            DUE.is("top " + part + " of a SEGMENT", x.number(0, part, 0), tops[part]);
            DUE.is("bottom " + part + " of a SEGMENT", x.number(0, part, 1), bottoms[part]);
        }
    }

    private static void circles() {
        makes("circle(p,q)", 5, "<1, 2, 25>");
        makes("circle(p,p)", "<1, 2, 0>");
        makes("round(p,5/2)", 5, "<1, 2, 5/2>");
        makes("round(p,0)", "<1, 2, 0>");
        fails("round(p,-1)", ABSENT, 0);
        makes("ring(o,point(4,0),point(0,6))", 5, "<2, 3, 13>");
        makes("ring(p,q,r)", "<9/2, 5/2, 25/2>");
        fails("ring(p,p,q)", ZERO, 0);
        fails("ring(p,q,p)", ZERO, 0);
        fails("ring(o,point(1,1),point(2,2))", ZERO, 0);
    }

    private static void measures() {
        makes("dist(p,q)", 0, "25");
        makes("dist(point(1/2,0),point(0,1/3))", "13/36");
        makes("area(p,q,r)", 0, "-25");
        makes("area(p,r,q)", "25");
        makes("power(q,d)", 0, "27");
        makes("power(o,d)", "-25");
        makes("power(q,round(point(1,3),7))", "11");
        makes("x(q)", 0, "4");
        makes("y(q)", "6");
        makes("slope(l)", 0, "4/3");
        makes("slope(m)", "0");
        fails("slope(v)", ZERO, 0);
        makes("square(d)", 0, "25");
        makes("size(w)", 0, "3");
        makes("kind(1)", 0, "0");
        makes("kind(p)", "1");
        makes("kind(free(1,1))", "2");
        makes("kind(l)", "3");
        makes("kind(s)", "4");
        makes("kind(d)", "5");
        makes("kind(w)", "6");
        fails("kind(n)", NOTHING, 0);
        makes("none(n)", 0, "1");
        makes("none(p)", "0");
        makes("none(w)", "0");
        fails("dist(point(40000,0),o)", LOST, 0);
        fails("x(l)", CAST, 0);
        fails("size(p)", CAST, 0);
        fails("square(l)", CAST, 0);
        fails("slope(d)", CAST, 0);
    }

    private static void cuts() {
        makes("cut(m,d,0)", 1, "(-5, 0)");
        makes("cut(m,d,1)", "(5, 0)");
        makes("cut(v,d,0)", "(0, -5)");
        makes("cut(v,d,1)", "(0, 5)");
        makes("cut(par(point(0,3),m),d,0)", "(-4, 3)");
        makes("cut(par(point(0,5),m),d,0)", "(0, 5)");
        makes("cut(par(point(0,5),m),d,1)", "(0, 5)");
        makes("cut(line(o,point(3,4)),d,1)", "(3, 4)");
        makes("cut(line(o,point(3,-4)),d,1)", "(3, -4)");
        makes("cut(line(o,point(3,-4)),d,0)", "(-3, 4)");
        makes("cut(m,round(o,1/4),1)", "(1/2, 0)");
        makes("cut(m,round(point(7,3),25),0)", "(3, 0)");
        makes("cut(m,round(point(7,3),25),1)", "(11, 0)");
        makes("cut(v,round(point(3,7),25),0)", "(0, 3)");
        makes("cut(v,round(point(3,7),25),1)", "(0, 11)");
        makes("cut(l,round(p,25),1)", "(4, 6)");
        makes("cut(s,round(p,25),0)", "(-2, -2)");
        fails("cut(par(point(0,6),m),d,0)", ABSENT, 0);
        fails("cut(m,round(o,2),0)", ABSENT, 0);
        fails("cut(m,round(o,1/2),0)", ABSENT, 0);
        fails("cut(m,d,2)", INDEX, 0);
        fails("cut(m,d,1/2)", INDEX, 0);
        fails("cut(m,d,-1)", INDEX, 0);
        fails("cut(par(point(0,6),m),d,2)", INDEX, 0);
        fails("cut(m,d,p)", CAST, 0);
        fails("cut(d,m,0)", CAST, 0);
    }

    private static void truths() {
        makes("on(p,l)", 0, "1");
        makes("on(o,l)", "0");
        makes("on(point(7,10),l)", "1");
        makes("on(point(7,10),s)", "0");
        makes("on(p,s)", "1");
        makes("on(q,s)", "1");
        makes("on(mid(p,q),s)", "1");
        makes("on(mid(p,q),seg(q,p))", "1");
        makes("on(point(-2,-2),s)", "0");
        makes("on(point(5/2,9/2),s)", "0");
        makes("on(point(2,0),seg(o,point(4,0)))", "1");
        makes("on(point(5,0),seg(o,point(4,0)))", "0");
        makes("on(point(0,5),seg(o,point(0,4)))", "0");
        makes("on(point(3,4),d)", "1");
        makes("on(point(3,3),d)", "0");
        makes("on(point(4,7),round(point(1,3),25))", "1");
        makes("on(point(4,7),round(point(3,1),25))", "0");
        fails("on(p,q)", CAST, 0);
        fails("on(p,1)", CAST, 0);
        fails("on(p,w)", CAST, 0);
        fails("on(l,p)", CAST, 0);
        fails("on(p,n)", NOTHING, 0);
        makes("is(p,point(1,2))", 0, "1");
        makes("is(p,free(1,2))", "1");
        makes("is(p,q)", "0");
        makes("is(l,s)", "1");
        makes("is(l,m)", "0");
        makes("is(s,seg(q,p))", "1");
        makes("is(2/4,1/2)", "1");
        makes("is(1,2)", "0");
        makes("is(d,circle(o,point(3,4)))", "1");
        makes("is(d,round(o,24))", "0");
        makes("is(d,line(o,point(0,1)))", "0");
        makes("is(p,l)", "0");
        makes("is(1,p)", "0");
        makes("is(w,w)", "1");
        makes("is(row(3),row(3))", "0");
        makes("is(w,1)", "0");
        fails("is(n,p)", NOTHING, 0);
        fails("is(p,n)", NOTHING, 0);
        makes("flat(l,s)", 0, "1");
        makes("flat(l,m)", "0");
        makes("flat(m,par(p,m))", "1");
        makes("flat(m,l)", "0");
        makes("flat(v,l)", "0");
        makes("flat(l,line(o,point(6,8)))", "1");
        makes("right(m,v)", 0, "1");
        makes("right(l,perp(o,l))", "1");
        makes("right(l,m)", "0");
    }

    private static void rows() {
        makes("row(0)", 6, "{0}");
        makes("row(20)", "{20}");
        makes("points(2)", 6, "{2}");
        makes("lines(2)", "{2}");
        makes("numbers(2)", "{2}");
        fails("row(21)", ROOM, 0);
        fails("points(-1)", SIZE, 0);
        fails("lines(1/2)", CAST, 0);
        fails("numbers(p)", CAST, 0);
        fails("row(n)", NOTHING, 0);
        fails("w[3]", INDEX, 0);
        fails("w[-1]", INDEX, 0);
        fails("w[1/2]", CAST, 0);
        fails("w[p]", CAST, 0);
        fails("w[n]", NOTHING, 0);
        fails("n[0]", NOTHING, 0);
        fails("p[0]", CAST, 0);
        fails("p[n]", CAST, 0);
        makes("none(w[2])", "1");
        String[] tools = {"row", "points", "lines", "numbers"};
        for (int sort = 0; sort < 4; sort++) {
            FigureTexts x = Due.run("draw " + tools[sort] + "(7);");
            DUE.is("SORT of " + tools[sort], x.number(0, 0, 0), sort);
            DUE.is("places of " + tools[sort], x.number(0, 1, 0), 7);
            DUE.is("a ROW's first bottom", x.number(0, 0, 1), 1);
            DUE.is("a ROW's second bottom", x.number(0, 1, 1), 1);
        }
        stores("row", "1 1 1 1 1 1 1");
        stores("points", "0 1 1 0 0 0 0");
        stores("lines", "0 0 0 1 1 0 0");
        stores("numbers", "1 0 0 0 0 0 0");
    }

    /** Which KINDS of THINGS go into a ROW: those of KIND 0 to 6 are put at places 0 to 6; nothing goes everywhere. */
    private static void stores(String tool, String due) {
        String text = "w=" + tool + "(8);w[0]=1;w[1]=point(1,1);w[2]=free(1,1);w[3]=line(point(1,2),point(3,4));"
            + "w[4]=seg(point(1,2),point(3,4));w[5]=round(point(1,1),1);w[6]=w;w[7]=w[7];k=0;times 7 {state 1-none(w[k]);k=k+1;}";
        FigureTexts x = Due.run(text);
        DUE.is("what goes into " + tool, Due.stated(x), due);
        int refused = due.length() - due.replace("0", "").length();
        DUE.is("what does not go into " + tool, x.count(2), refused);
        for (int i = 0; i < refused; i++) {
            DUE.is("its failure", x.fall(i, 0), STORE);
        }
        if (refused > 0) {
            int last = due.lastIndexOf('0') / 2;
            DUE.is("its byte", x.fall(refused - 1, 1), text.indexOf("w[" + last + "]="));
        }
    }

    private static void orderOfAsking() {
        fails("mid(n,1)", NOTHING, 0);
        fails("mid(1,n)", CAST, 0);
        fails("mid(p,n)", NOTHING, 0);
        fails("mid(1/0,n)", ZERO, 5);
        fails("mid(n,1/0)", ZERO, 7);
        fails("mid(mid(n,p),1/0)", NOTHING, 4);
        fails("cut(l,d,n)", NOTHING, 0);
        fails("area(p,l,n)", CAST, 0);
        fails("1/0+1/p", ZERO, 1);
        fails("p[1/0]", ZERO, 3);
    }

    /** Where one TOOL could be LOST as well as ZERO or ABSENT: what is reckoned first. */
    private static void orderOfReckoning() {
        fails("meet(par(point(0,999999999),m),m)", ZERO, 0);
        fails("meet(par(point(0,999999999),m),par(point(0,-999999999),m))", LOST, 0);
        fails("ring(point(999999999,0),point(999999999,0),o)", LOST, 0);
        fails("ring(p,p,point(999999999,0))", ZERO, 0);
        fails("ring(p,point(999999999,999999999),p)", LOST, 0);
        fails("mirror(o,line(point(999999999,0),point(999999999,1)))", LOST, 0);
        fails("cut(par(point(0,99999),m),d,0)", LOST, 0);
        fails("cut(par(point(0,9999),m),d,0)", ABSENT, 0);
        fails("cut(par(point(0,15625/15624),line(o,point(31249,1))),round(o,1/31249),0)", LOST, 0);
        fails("polar(point(999999999,0),round(point(-999999999,0),1))", LOST, 0);
    }
}
