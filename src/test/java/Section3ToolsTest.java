/** Section 3 of the document, TOOLS: what each TOOL makes and how it FAILS. */
public final class Section3ToolsTest {
    private static final Due DUE = new Due("Section 3, TOOLS");
    /** THINGS to work with; n holds nothing, f is a FREE. */
    private static final String GIVEN = "o=point(0,0);p=point(1,2);q=point(4,6);r=point(5,-1);l=line(p,q);m=line(o,point(1,0));"
        + "v=line(o,point(0,1));s=seg(p,q);d=round(o,25);w=row(3);n=w[0];f=free(9,7);";

    public static void main(String[] args) {
        DUE.holds("point(u, v)", Section3ToolsTest::points);
        DUE.holds("line(p, q)", Section3ToolsTest::lines);
        DUE.holds("seg(p, q): likewise a SEGMENT, ends p, q", Section3ToolsTest::segments);
        DUE.holds("mid(p, q)", Section3ToolsTest::mids);
        DUE.holds("par(p, l)", Section3ToolsTest::pars);
        DUE.holds("perp(p, l)", Section3ToolsTest::perps);
        DUE.holds("meet(l, m), by e 0 ZERO", Section3ToolsTest::meets);
        DUE.holds("foot(p, l)", Section3ToolsTest::feet);
        DUE.holds("mirror(p, l)", Section3ToolsTest::mirrors);
        DUE.holds("turn(p, o)", Section3ToolsTest::turns);
        DUE.holds("scale(p, o, k)", Section3ToolsTest::scales);
        DUE.holds("dist(p, q)", Section3ToolsTest::dists);
        DUE.holds("area(p, q, r)", Section3ToolsTest::areas);
        DUE.holds("circle(o, p)", Section3ToolsTest::circles);
        DUE.holds("round(o, k): s is k; ABSENT, if that is below 0", Section3ToolsTest::rounds);
        DUE.holds("ring(p, q, r)", Section3ToolsTest::rings);
        DUE.holds("half(l), of a SEGMENT", Section3ToolsTest::halves);
        DUE.holds("power(p, d)", Section3ToolsTest::powers);
        DUE.holds("polar(p, d)", Section3ToolsTest::polars);
        DUE.holds("invert(p, d), of the centre ZERO", Section3ToolsTest::inverts);
        DUE.holds("cut(l, d, k): INDEX, unless k is 0 or 1", Section3ToolsTest::cutIndex);
        DUE.holds("cut(l, d, k): ABSENT, if h is below 0", Section3ToolsTest::cutAbsent);
        DUE.holds("cut(l, d, k): ABSENT without a ROOT", Section3ToolsTest::cutRoot);
        DUE.holds("cut(l, d, k): for k = 0 the lesser x, of like ones the lesser y, for 1 the other one", Section3ToolsTest::cuts);
        DUE.holds("end(l, k): INDEX, unless k is 0 or 1", Section3ToolsTest::ends);
        DUE.holds("centre(d), square(d), x(p), y(p)", Section3ToolsTest::parts);
        DUE.holds("slope(l): -l.a / l.b", Section3ToolsTest::slopes);
        DUE.holds("on(p, w) of a LINE", Section3ToolsTest::onLine);
        DUE.holds("on(p, w) of a SEGMENT: between the ends' or one of them", Section3ToolsTest::onSegment);
        DUE.holds("on(p, w) of a SEGMENT: all POINTS of a field", Section3ToolsTest::onSegmentsOfAField);
        DUE.holds("on(p, w) of a CIRCLE", Section3ToolsTest::onCircle);
        DUE.holds("flat(l, m)", Section3ToolsTest::flats);
        DUE.holds("right(l, m)", Section3ToolsTest::rights);
        DUE.holds("is(w, w)", Section3ToolsTest::alike);
        DUE.holds("kind(w): its KIND", Section3ToolsTest::kinds);
        DUE.holds("none(w): 1 if it is nothing, else 0", Section3ToolsTest::nones);
        DUE.holds("row(k), points(k), lines(k), numbers(k): SIZE below 0, ROOM above 20", Section3ToolsTest::rows);
        DUE.holds("size(w): of a ROW, its places", Section3ToolsTest::sizes);
        DUE.holds("NAME [ k ]: of a ROW what is at place k, WHOLE; INDEX", Section3ToolsTest::places);
        DUE.holds("= < between NUMBERS: 1 or 0", Section3ToolsTest::comparisons);
        DUE.holds("+ - * / and - of one: of NUMBERS", Section3ToolsTest::signs);
        DUE.holds("WHOLE: the NUMBER's bottom is 1, else CAST", Section3ToolsTest::wholes);
        DUE.holds("NOTHING, CAST of each argument of each TOOL", Section3ToolsTest::allArguments);
        DUE.holds("all worked out first, from the left", Section3ToolsTest::workedOutFirst);
        DUE.holds("then asked from the left: NOTHING, CAST", Section3ToolsTest::askedFromTheLeft);
        DUE.holds("then the others as told", Section3ToolsTest::thenTheOthers);
        DUE.holds("LOST on the way, and what comes first", Section3ToolsTest::orderOfReckoning);
        DUE.holds("all reckoning is as written: LOST though what comes of it would not be", Section3ToolsTest::lostAsWritten);
        DUE.holds("all reckoning is as written: by NORMAL LINES", Section3ToolsTest::byNormalLines);
        DUE.end();
    }

    private static void makes(String exp, String written) {
        DUE.does(GIVEN + "draw " + exp + ";", written, "", "");
    }

    private static void makes(String exp, int kind, String written) {
        makes(exp, written);
        DUE.is("KIND of " + exp, Due.run(GIVEN + "draw " + exp + ";").kind(0), kind);
    }

    /** The FALL is at the byte that is so far behind the exp's first one. */
    private static void fails(String exp, int failure, int behind) {
        DUE.does(GIVEN + "draw " + exp + ";", "", "", Due.fall(failure, GIVEN.length() + 5 + behind));
    }

    private static void points() {
        makes("point(1/2,-3)", 1, "(1/2, -3)");
        makes("point(0,0)", 1, "(0, 0)");
    }

    private static void lines() {
        makes("line(p,q)", 3, "[1, -3/4, -1/2]");
        makes("line(q,p)", 3, "[1, -3/4, -1/2]");
        makes("m", 3, "[0, 1, 0]");
        makes("v", 3, "[1, 0, 0]");
        makes("line(f,o)", 3, "[1, -9/7, 0]");
        fails("line(p,p)", Due.ZERO, 0);
        fails("line(f,point(9,7))", Due.ZERO, 0);
    }

    private static void segments() {
        makes("seg(p,q)", 4, "[1, -3/4, -1/2]");
        fails("seg(q,q)", Due.ZERO, 0);
        FigureTexts x = Due.run("draw seg(point(1/2,3),point(4,-5));draw seg(point(4,-5),point(1/2,3));");
        long[] tops = {1, 7, 29, 1, 3, 4, -5};
        long[] bottoms = {1, 16, 16, 2, 1, 1, 1};
        int[] turned = {0, 1, 2, 5, 6, 3, 4};
        for (int part = 0; part < 7; part++) {
            DUE.is("top " + part, x.number(0, part, 0), tops[part]);
            DUE.is("bottom " + part, x.number(0, part, 1), bottoms[part]);
            DUE.is("top " + part + " the other way", x.number(1, part, 0), tops[turned[part]]);
            DUE.is("bottom " + part + " the other way", x.number(1, part, 1), bottoms[turned[part]]);
        }
    }

    private static void mids() {
        makes("mid(p,q)", 1, "(5/2, 4)");
        makes("mid(p,p)", 1, "(1, 2)");
        makes("mid(f,f)", 1, "(9, 7)");
        fails("mid(point(999999999,0),point(999999999,0))", Due.LOST, 0);
        makes("mid(point(999999999,0),point(-999999999,1))", "(0, 1/2)");
    }

    private static void pars() {
        makes("par(r,l)", 3, "[1, -3/4, 23/4]");
        makes("par(r,s)", 3, "[1, -3/4, 23/4]");
        makes("par(r,m)", 3, "[0, 1, -1]");
        makes("par(p,l)", 3, "[1, -3/4, -1/2]");
    }

    private static void perps() {
        makes("perp(r,l)", 3, "[1, 4/3, 11/3]");
        makes("perp(r,s)", 3, "[1, 4/3, 11/3]");
        makes("perp(r,m)", 3, "[1, 0, 5]");
        makes("perp(r,v)", 3, "[0, 1, -1]");
    }

    private static void meets() {
        makes("meet(m,v)", 1, "(0, 0)");
        makes("meet(l,m)", 1, "(-1/2, 0)");
        makes("meet(m,l)", 1, "(-1/2, 0)");
        makes("meet(s,m)", 1, "(-1/2, 0)");
        makes("meet(par(q,m),par(r,v))", "(5, 6)");
        fails("meet(m,par(p,m))", Due.ZERO, 0);
        fails("meet(l,s)", Due.ZERO, 0);
        fails("meet(l,l)", Due.ZERO, 0);
    }

    private static void feet() {
        makes("foot(o,l)", 1, "(-8/25, 6/25)");
        makes("foot(q,m)", 1, "(4, 0)");
        makes("foot(q,v)", 1, "(0, 6)");
        makes("foot(p,s)", 1, "(1, 2)");
    }

    private static void mirrors() {
        makes("mirror(q,m)", 1, "(4, -6)");
        makes("mirror(q,v)", 1, "(-4, 6)");
        makes("mirror(o,l)", 1, "(-16/25, 12/25)");
        makes("mirror(p,l)", 1, "(1, 2)");
    }

    private static void turns() {
        makes("turn(q,p)", 1, "(-3, 5)");
        makes("turn(p,o)", 1, "(-2, 1)");
        makes("turn(p,p)", 1, "(1, 2)");
        makes("turn(turn(turn(turn(r,q),q),q),q)", "(5, -1)");
    }

    private static void scales() {
        makes("scale(q,p,2)", 1, "(7, 10)");
        makes("scale(q,p,-1/2)", 1, "(-1/2, 0)");
        makes("scale(q,p,0)", 1, "(1, 2)");
        makes("scale(q,p,1)", 1, "(4, 6)");
    }

    private static void dists() {
        makes("dist(p,q)", 0, "25");
        makes("dist(p,p)", 0, "0");
        makes("dist(point(1/2,0),point(0,1/3))", "13/36");
        makes("dist(point(31622,0),o)", "999950884");
        fails("dist(point(31623,0),o)", Due.LOST, 0);
        fails("dist(o,point(0,31623))", Due.LOST, 0);
    }

    private static void areas() {
        makes("area(p,q,r)", 0, "-25");
        makes("area(p,r,q)", 0, "25");
        makes("area(o,p,point(2,4))", 0, "0");
        makes("area(point(1/2,0),point(3/2,1/3),point(0,5))", "31/6");
    }

    private static void circles() {
        makes("circle(p,q)", 5, "<1, 2, 25>");
        makes("circle(q,p)", 5, "<4, 6, 25>");
        makes("circle(p,p)", 5, "<1, 2, 0>");
    }

    private static void rounds() {
        makes("round(p,5/2)", 5, "<1, 2, 5/2>");
        makes("round(p,0)", 5, "<1, 2, 0>");
        fails("round(p,-1)", Due.ABSENT, 0);
        fails("round(p,-1/999999999)", Due.ABSENT, 0);
    }

    private static void rings() {
        makes("ring(o,point(4,0),point(0,6))", 5, "<2, 3, 13>");
        makes("ring(p,q,r)", 5, "<9/2, 5/2, 25/2>");
        makes("ring(r,q,p)", 5, "<9/2, 5/2, 25/2>");
        fails("ring(p,p,q)", Due.ZERO, 0);
        fails("ring(p,q,p)", Due.ZERO, 0);
        fails("ring(p,q,q)", Due.ZERO, 0);
        fails("ring(o,point(1,1),point(2,2))", Due.ZERO, 0);
    }

    private static void halves() {
        makes("half(s)", 3, "[1, 4/3, 47/6]");
        makes("half(seg(o,point(4,0)))", 3, "[1, 0, 2]");
        makes("half(seg(o,point(0,4)))", 3, "[0, 1, 2]");
        fails("half(l)", Due.CAST, 0);
    }

    private static void powers() {
        makes("power(q,d)", 0, "27");
        makes("power(o,d)", 0, "-25");
        makes("power(point(3,4),d)", 0, "0");
        makes("power(q,round(point(1,3),7))", "11");
    }

    private static void polars() {
        makes("polar(point(5,5),d)", 3, "[1, 1, 5]");
        makes("polar(point(3,4),round(p,5))", 3, "[1, 1, 11/2]");
        makes("polar(point(0,5),d)", 3, "[0, 1, 5]");
        fails("polar(o,d)", Due.ZERO, 0);
    }

    private static void inverts() {
        makes("invert(p,d)", 1, "(5, 10)");
        makes("invert(point(3,4),d)", 1, "(3, 4)");
        makes("invert(q,round(point(1,3),9))", 1, "(5/2, 9/2)");
        makes("invert(q,round(p,0))", 1, "(1, 2)");
        fails("invert(o,d)", Due.ZERO, 0);
    }

    private static void cutIndex() {
        fails("cut(m,d,2)", Due.INDEX, 0);
        fails("cut(m,d,-1)", Due.INDEX, 0);
        fails("cut(m,d,1/2)", Due.INDEX, 0);
        fails("cut(m,d,999999999)", Due.INDEX, 0);
        fails("cut(par(point(0,6),m),d,2)", Due.INDEX, 0);
        fails("cut(par(point(0,999999999),m),d,2)", Due.INDEX, 0);
    }

    private static void cutAbsent() {
        makes("cut(par(point(0,5),m),d,0)", "(0, 5)");
        fails("cut(par(point(0,6),m),d,0)", Due.ABSENT, 0);
        fails("cut(par(point(0,6),m),d,1)", Due.ABSENT, 0);
        fails("cut(par(point(0,501/100),m),d,0)", Due.ABSENT, 0);
        makes("cut(m,round(o,0),0)", "(0, 0)");
        makes("cut(m,round(o,0),1)", "(0, 0)");
    }

    private static void cutRoot() {
        fails("cut(m,round(o,2),0)", Due.ABSENT, 0);
        fails("cut(m,round(o,1/2),0)", Due.ABSENT, 0);
        fails("cut(m,round(o,2/9),0)", Due.ABSENT, 0);
        makes("cut(m,round(o,4/9),0)", "(-2/3, 0)");
        makes("cut(m,round(o,999950884),1)", "(31622, 0)");
        fails("cut(m,round(o,999950883),1)", Due.ABSENT, 0);
        fails("cut(m,round(o,999950885),1)", Due.ABSENT, 0);
        makes("cut(m,round(o,1/999950884),1)", "(1/31622, 0)");
        fails("cut(m,round(o,1/999950883),1)", Due.ABSENT, 0);
        fails("cut(m,round(o,999999999),1)", Due.ABSENT, 0);
    }

    private static void cuts() {
        makes("cut(m,d,0)", 1, "(-5, 0)");
        makes("cut(m,d,1)", 1, "(5, 0)");
        makes("cut(v,d,0)", 1, "(0, -5)");
        makes("cut(v,d,1)", 1, "(0, 5)");
        makes("cut(par(point(0,3),m),d,0)", "(-4, 3)");
        makes("cut(par(point(0,3),m),d,1)", "(4, 3)");
        makes("cut(par(point(0,5),m),d,1)", "(0, 5)");
        makes("cut(line(o,point(3,4)),d,1)", "(3, 4)");
        makes("cut(line(o,point(3,4)),d,0)", "(-3, -4)");
        makes("cut(line(o,point(3,-4)),d,1)", "(3, -4)");
        makes("cut(line(o,point(3,-4)),d,0)", "(-3, 4)");
        makes("cut(m,round(o,1/4),1)", "(1/2, 0)");
        makes("cut(m,round(point(7,3),25),0)", "(3, 0)");
        makes("cut(m,round(point(7,3),25),1)", "(11, 0)");
        makes("cut(v,round(point(3,7),25),0)", "(0, 3)");
        makes("cut(v,round(point(3,7),25),1)", "(0, 11)");
        makes("cut(l,round(p,25),1)", "(4, 6)");
        makes("cut(s,round(p,25),0)", "(-2, -2)");
    }

    private static void ends() {
        makes("end(s,0)", 1, "(1, 2)");
        makes("end(s,1)", 1, "(4, 6)");
        makes("end(seg(q,p),0)", 1, "(4, 6)");
        makes("end(seg(f,p),0)", 1, "(9, 7)");
        fails("end(s,2)", Due.INDEX, 0);
        fails("end(s,-1)", Due.INDEX, 0);
        fails("end(s,1/2)", Due.INDEX, 0);
        fails("end(l,0)", Due.CAST, 0);
        fails("end(l,2)", Due.CAST, 0);
    }

    private static void parts() {
        makes("centre(round(q,1))", 1, "(4, 6)");
        makes("centre(d)", 1, "(0, 0)");
        makes("mid(centre(round(q,1)),centre(d))", "(2, 3)");
        makes("square(d)", 0, "25");
        makes("square(round(o,0))", 0, "0");
        makes("x(q)", 0, "4");
        makes("y(q)", 0, "6");
        makes("x(f)", 0, "9");
        makes("y(f)", 0, "7");
    }

    private static void slopes() {
        makes("slope(l)", 0, "4/3");
        makes("slope(s)", 0, "4/3");
        makes("slope(m)", 0, "0");
        makes("slope(line(o,point(2,-3)))", 0, "-3/2");
        fails("slope(v)", Due.ZERO, 0);
    }

    private static void onLine() {
        makes("on(p,l)", 0, "1");
        makes("on(o,l)", 0, "0");
        makes("on(point(7,10),l)", "1");
        makes("on(f,line(f,o))", "1");
    }

    private static void onSegment() {
        makes("on(p,s)", "1");
        makes("on(q,s)", "1");
        makes("on(mid(p,q),s)", "1");
        makes("on(mid(p,q),seg(q,p))", "1");
        makes("on(point(7,10),s)", "0");
        makes("on(point(-2,-2),s)", "0");
        makes("on(point(-2,-2),seg(q,p))", "0");
        makes("on(point(5/2,9/2),s)", "0");
        makes("on(point(2,0),seg(o,point(4,0)))", "1");
        makes("on(point(5,0),seg(o,point(4,0)))", "0");
        makes("on(point(-1,0),seg(o,point(4,0)))", "0");
        makes("on(point(0,2),seg(o,point(0,4)))", "1");
        makes("on(point(0,5),seg(o,point(0,4)))", "0");
        makes("on(point(0,-1),seg(o,point(0,4)))", "0");
        makes("on(point(1,-1),seg(point(0,0),point(2,-2)))", "1");
        makes("on(point(3,-3),seg(point(0,0),point(2,-2)))", "0");
        makes("on(point(41/10,92/15),s)", "0");
    }

    /** All POINTS of a small field, told by whole numbers alone. */
    private static void onSegmentsOfAField() {
        int[][] ends = {{1, 2, 3, 4}, {3, 4, 1, 2}, {0, 3, 4, 1}, {4, 1, 0, 3}, {1, 2, 3, 2}, {2, 1, 2, 4}, {0, 1, 4, 3}, {3, 0, 1, 4}};
        for (int[] e : ends) {
            StringBuilder text = new StringBuilder("s=seg(point(" + e[0] + "," + e[1] + "),point(" + e[2] + "," + e[3] + "));");
            StringBuilder due = new StringBuilder();
            for (int i = 0; i < 25; i++) {
                int x = i / 5;
                int y = i % 5;
                boolean straight = (x - e[0]) * (e[3] - e[1]) == (y - e[1]) * (e[2] - e[0]);
                boolean between = x >= Math.min(e[0], e[2]) && x <= Math.max(e[0], e[2]) && y >= Math.min(e[1], e[3]) && y <= Math.max(e[1], e[3]);
                text.append("state on(point(").append(x).append(',').append(y).append("),s);");
                due.append(i > 0 ? " " : "").append(straight && between ? 1 : 0);
            }
            DUE.does(text.toString(), "", due.toString(), "");
        }
    }

    private static void onCircle() {
        makes("on(point(3,4),d)", "1");
        makes("on(point(3,3),d)", "0");
        makes("on(o,d)", "0");
        makes("on(o,round(o,0))", "1");
        makes("on(point(4,7),round(point(1,3),25))", "1");
        makes("on(point(4,7),round(point(3,1),25))", "0");
    }

    private static void flats() {
        makes("flat(l,s)", 0, "1");
        makes("flat(l,l)", 0, "1");
        makes("flat(l,m)", 0, "0");
        makes("flat(m,par(p,m))", "1");
        makes("flat(m,l)", "0");
        makes("flat(v,l)", "0");
        makes("flat(l,line(o,point(6,8)))", "1");
        makes("flat(l,line(o,point(6,-8)))", "0");
    }

    private static void rights() {
        makes("right(m,v)", 0, "1");
        makes("right(l,perp(o,l))", 0, "1");
        makes("right(s,perp(o,l))", 0, "1");
        makes("right(v,m)", 0, "1");
        makes("right(perp(o,l),l)", 0, "1");
        makes("right(line(o,point(1,1)),line(o,point(1,-1)))", "1");
        makes("right(line(o,point(1,1)),line(o,point(1,1)))", "0");
        makes("right(line(o,point(1,1)),m)", "0");
        makes("right(m,line(o,point(1,-1)))", "0");
        makes("right(v,line(o,point(1,1)))", "0");
        makes("right(m,m)", "0");
        makes("right(l,m)", 0, "0");
        makes("right(l,l)", 0, "0");
    }

    private static void alike() {
        makes("is(2/4,1/2)", 0, "1");
        makes("is(1,2)", "0");
        makes("is(p,point(1,2))", "1");
        makes("is(f,point(9,7))", "1");
        makes("is(f,free(9,7))", "1");
        makes("is(p,q)", "0");
        makes("is(p,point(2,1))", "0");
        makes("is(l,s)", "1");
        makes("is(s,l)", "1");
        makes("is(l,m)", "0");
        makes("is(s,seg(q,p))", "1");
        makes("is(s,seg(p,point(7,10)))", "1");
        makes("is(d,circle(o,point(3,4)))", "1");
        makes("is(d,round(o,24))", "0");
        makes("is(d,round(p,25))", "0");
        makes("is(line(point(1,0),point(1,1)),round(point(1,0),1))", "0");
        makes("is(p,l)", "0");
        makes("is(1,p)", "0");
        makes("is(w,w)", "1");
        makes("is(row(3),row(3))", "0");
        makes("is(w,1)", "0");
        makes("is(1,w)", "0");
    }

    private static void kinds() {
        makes("kind(1)", 0, "0");
        makes("kind(p)", "1");
        makes("kind(f)", "2");
        makes("kind(l)", "3");
        makes("kind(s)", "4");
        makes("kind(d)", "5");
        makes("kind(w)", "6");
        fails("kind(n)", Due.NOTHING, 0);
    }

    private static void nones() {
        makes("none(n)", 0, "1");
        makes("none(w[2])", 0, "1");
        for (String thing : new String[] {"0", "p", "f", "l", "s", "d", "w", "row(0)"}) {
            makes("none(" + thing + ")", 0, "0");
        }
    }

    private static void rows() {
        for (String tool : new String[] {"row", "points", "lines", "numbers"}) {
            makes(tool + "(0)", 6, "{0}");
            makes(tool + "(20)", 6, "{20}");
            fails(tool + "(21)", Due.ROOM, 0);
            fails(tool + "(999999999)", Due.ROOM, 0);
            fails(tool + "(-1)", Due.SIZE, 0);
            fails(tool + "(-999999999)", Due.SIZE, 0);
            fails(tool + "(1/2)", Due.CAST, 0);
            fails(tool + "(-1/2)", Due.CAST, 0);
            fails(tool + "(43/2)", Due.CAST, 0);
        }
        makes("none(is(row(1),row(1)))", "0");
    }

    private static void sizes() {
        makes("size(w)", 0, "3");
        makes("size(row(0))", 0, "0");
        makes("size(points(20))", 0, "20");
    }

    private static void places() {
        DUE.does("w=row(2);w[0]=4;w[1]=point(1,2);draw w[0];draw w[1];draw w[2/2];", "4 (1, 2) (1, 2)", "", "");
        fails("w[3]", Due.INDEX, 0);
        fails("w[-1]", Due.INDEX, 0);
        fails("w[999999999]", Due.INDEX, 0);
        fails("w[-999999999]", Due.INDEX, 0);
        fails("w[1/2]", Due.CAST, 0);
        fails("w[-1/2]", Due.CAST, 0);
        fails("w[7/2]", Due.CAST, 0);
        fails("w[p]", Due.CAST, 0);
        fails("w[n]", Due.NOTHING, 0);
        fails("n[0]", Due.NOTHING, 0);
        fails("n[p]", Due.NOTHING, 0);
        fails("p[0]", Due.CAST, 0);
        fails("p[n]", Due.CAST, 0);
        DUE.does("w=row(0);draw w[0];", "", "", Due.fall(Due.INDEX, 14));
        DUE.does("w=row(20);state none(w[19]);state none(w[20]);", "", "1 -1", Due.fall(Due.INDEX, 39));
    }

    private static void comparisons() {
        makes("1=1", 0, "1");
        makes("1=2", 0, "0");
        makes("1/2=2/4", "1");
        makes("1/3<1/2", 0, "1");
        makes("1/2<1/2", "0");
        makes("1/2<1/3", "0");
        makes("-1<0", "1");
        makes("0<-1", "0");
        makes("(1<2)=1", "1");
        fails("p=p", Due.CAST, 1);
        fails("1<p", Due.CAST, 1);
        fails("n=1", Due.NOTHING, 1);
        fails("1<n", Due.NOTHING, 1);
    }

    private static void signs() {
        for (String sign : new String[] {"+", "-", "*", "/", "=", "<"}) {
            for (String thing : new String[] {"p", "f", "l", "s", "d", "w"}) {
                fails(thing + sign + "1", Due.CAST, 1);
                fails("1" + sign + thing, Due.CAST, 1);
            }
            fails("n" + sign + "1", Due.NOTHING, 1);
            fails("1" + sign + "n", Due.NOTHING, 1);
            fails("n" + sign + "p", Due.NOTHING, 1);
            fails("p" + sign + "n", Due.CAST, 1);
        }
        for (String thing : new String[] {"p", "f", "l", "s", "d", "w"}) {
            fails("-" + thing, Due.CAST, 0);
        }
        fails("-n", Due.NOTHING, 0);
        fails("1+-p", Due.CAST, 2);
        fails("--p", Due.CAST, 1);
    }

    private static void wholes() {
        makes("row(4/2)", "{2}");
        makes("row(0/5)", "{0}");
        fails("row(1/3)", Due.CAST, 0);
        makes("none(w[4/2])", "1");
        fails("w[1/3]", Due.CAST, 0);
        DUE.does("times 4/2{draw 1;}times 1/3{draw 2;}", "1 1", "", Due.fall(Due.CAST, 18));
    }

    /** A letter for each argument: what fits there. */
    private static final String[][] WANTS = {{"x", "P"}, {"y", "P"}, {"slope", "L"}, {"centre", "C"}, {"square", "C"}, {"half", "S"},
        {"size", "R"}, {"none", "E"}, {"kind", "A"}, {"row", "N"}, {"points", "N"}, {"lines", "N"}, {"numbers", "N"}, {"point", "NN"},
        {"free", "NN"}, {"line", "PP"}, {"seg", "PP"}, {"mid", "PP"}, {"foot", "PL"}, {"mirror", "PL"}, {"turn", "PP"}, {"par", "PL"},
        {"perp", "PL"}, {"meet", "LL"}, {"circle", "PP"}, {"round", "PN"}, {"power", "PC"}, {"polar", "PC"}, {"invert", "PC"},
        {"dist", "PP"}, {"end", "SN"}, {"on", "PF"}, {"is", "AA"}, {"flat", "LL"}, {"right", "LL"}, {"scale", "PPN"}, {"ring", "PPP"},
        {"area", "PPP"}, {"cut", "LCN"}};

    private static String good(char want, int position) {
        switch (want) {
            case 'P': return position == 0 ? "p" : position == 1 ? "q" : "r";
            case 'L': case 'F': return position == 0 ? "l" : "m";
            case 'S': return "s";
            case 'C': return "d";
            case 'R': return "w";
            default: return "1";
        }
    }

    private static boolean fits(char want, int kind) {
        switch (want) {
            case 'P': return kind == 1 || kind == 2;
            case 'L': return kind == 3 || kind == 4;
            case 'F': return kind >= 3 && kind <= 5;
            case 'S': return kind == 4;
            case 'C': return kind == 5;
            case 'R': return kind == 6;
            case 'N': return kind == 0;
            default: return true;
        }
    }

    private static void allArguments() {
        String[] things = {"1", "p", "f", "l", "s", "d", "w"};
        for (String[] tool : WANTS) {
            for (int position = 0; position < tool[1].length(); position++) {
                char want = tool[1].charAt(position);
                for (int kind = 0; kind < things.length; kind++) {
                    argument(tool, position, things[kind], fits(want, kind) ? 0 : Due.CAST);
                }
                argument(tool, position, "n", want == 'E' ? 0 : Due.NOTHING);
            }
        }
        DUE.is("TOOLS", WANTS.length, 39);
    }

    private static void argument(String[] tool, int position, String thing, int failure) {
        StringBuilder exp = new StringBuilder(tool[0]).append('(');
        for (int i = 0; i < tool[1].length(); i++) {
            exp.append(i > 0 ? "," : "").append(i == position ? thing : good(tool[1].charAt(i), i));
        }
        exp.append(')');
        if (failure != 0) {
            fails(exp.toString(), failure, 0);
            return;
        }
        FigureTexts x = Due.run(GIVEN + "draw " + exp + ";");
        boolean asked = x.count(2) > 0 && (x.fall(0, 0) == Due.NOTHING || x.fall(0, 0) == Due.CAST);
        DUE.is("whether " + exp + " FAILS by NOTHING, CAST", asked, false);
    }

    private static void workedOutFirst() {
        fails("mid(n,1/0)", Due.ZERO, 7);
        fails("mid(1/0,n)", Due.ZERO, 5);
        fails("mid(mid(n,p),1/0)", Due.NOTHING, 4);
        fails("mid(1/0,mid(n,p))", Due.ZERO, 5);
        fails("area(1,n,1/0)", Due.ZERO, 10);
        fails("1/0+1/p", Due.ZERO, 1);
        fails("n+1/0", Due.ZERO, 3);
        fails("p[1/0]", Due.ZERO, 3);
        fails("n[1/0]", Due.ZERO, 3);
        fails("-(1/0)", Due.ZERO, 3);
        fails("row(1/0)", Due.ZERO, 5);
    }

    private static void askedFromTheLeft() {
        fails("mid(n,1)", Due.NOTHING, 0);
        fails("mid(1,n)", Due.CAST, 0);
        fails("cut(l,d,n)", Due.NOTHING, 0);
        fails("cut(n,l,p)", Due.NOTHING, 0);
        fails("cut(l,n,p)", Due.NOTHING, 0);
        fails("cut(l,l,n)", Due.CAST, 0);
        fails("area(p,l,n)", Due.CAST, 0);
        fails("area(p,n,l)", Due.NOTHING, 0);
        fails("is(n,n)", Due.NOTHING, 0);
        fails("on(n,p)", Due.NOTHING, 0);
        fails("on(p,q)", Due.CAST, 0);
    }

    private static void thenTheOthers() {
        fails("cut(l,d,p)", Due.CAST, 0);
        fails("end(s,p)", Due.CAST, 0);
        fails("round(p,l)", Due.CAST, 0);
        fails("round(l,-1)", Due.CAST, 0);
        fails("scale(p,p,n)", Due.NOTHING, 0);
        fails("line(p,1)", Due.CAST, 0);
        fails("cut(n,d,5)", Due.NOTHING, 0);
    }

    /** Where one TOOL could be LOST as well as ZERO or ABSENT: what is reckoned first. */
    private static void orderOfReckoning() {
        fails("meet(par(point(0,999999999),m),m)", Due.ZERO, 0);
        fails("meet(par(point(0,999999999),m),par(point(0,-999999999),m))", Due.LOST, 0);
        fails("ring(point(999999999,0),point(999999999,0),o)", Due.LOST, 0);
        fails("ring(p,p,point(999999999,0))", Due.ZERO, 0);
        fails("ring(p,point(999999999,999999999),p)", Due.LOST, 0);
        fails("mirror(o,line(point(999999999,0),point(999999999,1)))", Due.LOST, 0);
        fails("cut(par(point(0,99999),m),d,0)", Due.LOST, 0);
        fails("cut(par(point(0,9999),m),d,0)", Due.ABSENT, 0);
        fails("cut(par(point(0,15625/15624),line(o,point(31249,1))),round(o,1/31249),0)", Due.LOST, 0);
        fails("polar(point(999999999,0),round(point(-999999999,0),1))", Due.LOST, 0);
        fails("invert(point(40000,0),d)", Due.LOST, 0);
        fails("power(point(40000,0),d)", Due.LOST, 0);
        fails("on(point(40000,0),d)", Due.LOST, 0);
        fails("turn(point(0,-999999999),point(999999999,0))", Due.LOST, 0);
        fails("scale(point(999999999,0),o,2)", Due.LOST, 0);
        fails("par(point(999999999,999999999),line(o,point(1,-1)))", Due.LOST, 0);
        fails("line(point(999999999,0),point(-999999999,1))", Due.LOST, 0);
    }

    /** Of each of these what is asked for could be told by other ways of reckoning. */
    private static void lostAsWritten() {
        fails("turn(point(0,999999999),point(999999999,-999999999))", Due.LOST, 0);
        fails("turn(point(999999999,0),point(-999999999,-999999999))", Due.LOST, 0);
        fails("scale(o,point(-999999999,0),2)", Due.LOST, 0);
        fails("scale(o,point(0,-999999999),2)", Due.LOST, 0);
        fails("mirror(point(600000001,0),line(point(600000000,0),point(600000000,1)))", Due.LOST, 0);
        fails("mirror(point(0,600000001),line(point(0,600000000),point(1,600000000)))", Due.LOST, 0);
        fails("line(point(40000,40000),o)", Due.LOST, 0);
        makes("line(o,point(40000,40000))", "[1, -1, 0]");
        fails("seg(point(40000,40000),o)", Due.LOST, 0);
        makes("seg(o,point(40000,40000))", "[1, -1, 0]");
        fails("half(seg(point(999999999,0),point(999999998,1)))", Due.LOST, 0);
        fails("meet(line(point(999999999,0),point(999999997,1)),line(point(-999999999,0),point(-999999997,1)))", Due.LOST, 0);
        fails("area(o,point(40000,40000),point(40000,40000))", Due.LOST, 0);
        fails("power(point(31623,0),round(o,999999999))", Due.LOST, 0);
        fails("polar(point(3,4),round(point(1,5),999999999))", Due.LOST, 0);
        fails("polar(point(3,6),round(point(1,-5),999999999))", Due.LOST, 0);
        fails("invert(point(1/31623,0),round(o,1))", Due.LOST, 0);
        makes("invert(point(1/31622,0),round(o,1))", "(31622, 0)");
        fails("on(point(999999999,999999999),line(o,point(1,-1)))", Due.LOST, 0);
        fails("on(point(40000,0),round(o,1))", Due.LOST, 0);
        fails("right(line(o,point(40000,-1)),line(o,point(40000,-1)))", Due.LOST, 0);
        fails("circle(point(31623,0),o)", Due.LOST, 0);
    }

    private static void byNormalLines() {
        makes("foot(point(4,0),line(o,point(-31874,2)))", "(507975938/126993985, -31874/126993985)");
        makes("foot(point(95,80),line(o,point(3419,72)))", "(226040347/2338949, 4760136/2338949)");
        fails("foot(point(-4,502247362/9),line(o,point(-4,8)))", Due.LOST, 0);
        fails("ring(point(0,384818),point(0,378),point(0,651))", Due.ZERO, 0);
        fails("ring(point(4045,-2778),o,o)", Due.LOST, 0);
        fails("ring(point(13954,6887),point(8,0),point(8,0))", Due.LOST, 0);
        fails("cut(line(o,point(-2,86)),round(point(26,0),85),1)", Due.ABSENT, 0);
        fails("cut(line(o,point(8,63)),round(point(5,85),35/1369),0)", Due.ABSENT, 0);
    }
}
