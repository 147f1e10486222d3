/** Section 4 of the document, A RUN: deeds, FALLS, macros, STEPS. LEANS are asked in Promise13LeansTest. */
public final class Section4RunTest {
    private static final Due DUE = new Due("Section 4, A RUN");

    public static void main(String[] args) {
        DUE.holds("the figure's deeds in order", Section4RunTest::inOrder);
        DUE.holds("NAMES hold a THING or nothing (at first)", Section4RunTest::nothingAtFirst);
        DUE.holds("When an exp FAILS, nothing else of its deed is done", Section4RunTest::nothingElse);
        DUE.holds("the byte at which the NODE that FAILED begins (of what is between two: that sign)", Section4RunTest::bytes);
        DUE.holds("NAME = exp: the NAME holds that (nothing, if it FAILS)", Section4RunTest::names);
        DUE.holds("NAME [ exp ] = exp: the place, then the THING are worked out", Section4RunTest::placeThenThing);
        DUE.holds("NAME [ exp ] = exp: then NOTHING, CAST (the NAME's: no ROW)", Section4RunTest::placeName);
        DUE.holds("NAME [ exp ] = exp: NOTHING, CAST (the place's)", Section4RunTest::placePlace);
        DUE.holds("NAME [ exp ] = exp: INDEX", Section4RunTest::placeIndex);
        DUE.holds("NAME [ exp ] = exp: STORE: a THING that is none of the SORT", Section4RunTest::placeStore);
        DUE.holds("nothing goes everywhere", Section4RunTest::nothingEverywhere);
        DUE.holds("(All at the deed's byte, that of its NAME.)", Section4RunTest::placeByte);
        DUE.holds("if: the first block, if the exp is a NUMBER that is not 0", Section4RunTest::ifs);
        DUE.holds("if: (NOTHING, CAST else), otherwise, also by a FALL, the other one", Section4RunTest::ifFalls);
        DUE.holds("times: the block so many times, also 0 times", Section4RunTest::times);
        DUE.holds("times: a NUMBER, WHOLE (NOTHING, CAST)", Section4RunTest::timesCast);
        DUE.holds("times: SIZE below 0", Section4RunTest::timesSize);
        DUE.holds("times: by a FALL not at all", Section4RunTest::timesFall);
        DUE.holds("state: STATED is 1, if the exp is a NUMBER that is not 0, 0 if it is 0", Section4RunTest::states);
        DUE.holds("state: (NOTHING, CAST else), NONE by a FALL", Section4RunTest::stateFalls);
        DUE.holds("draw: the THING is DRAWN; NOTHING", Section4RunTest::draws);
        DUE.holds("ROOM: a 41st that would be DRAWN; the exp is not worked out then", Section4RunTest::roomForDrawn);
        DUE.holds("ROOM: a 41st that would be STATED (NONE, too), nothing is STATED", Section4RunTest::roomForStated);
        DUE.holds("ROOM: filled by what the deed's own exp does", Section4RunTest::roomWithin);
        DUE.holds("What is told here FAILS at the deed's byte", Section4RunTest::deedsByte);
        DUE.holds("A macro's CALL: its PARAMS hold the arguments (also nothing)", Section4RunTest::params);
        DUE.holds("its other NAMES nothing", Section4RunTest::otherNames);
        DUE.holds("its deeds are done, up to a give: that THING is what comes", Section4RunTest::gives);
        DUE.holds("(nothing by a FALL, and without a give)", Section4RunTest::givesNothing);
        DUE.holds("a give leaves blocks and turns", Section4RunTest::givesOutOfBlocks);
        DUE.holds("ROOM: it would be within 8 others", Section4RunTest::withinEight);
        DUE.holds("STEPS: each deed as it begins", Section4RunTest::stepsOfDeeds);
        DUE.holds("STEPS: each NODE of an exp as it begins to be worked out", Section4RunTest::stepsOfNodes);
        DUE.holds("STEPS: each turn of times", Section4RunTest::stepsOfTurns);
        DUE.holds("SPENT when there would be the 401st", Section4RunTest::spentBySteps);
        DUE.holds("SPENT at once as the 12th FALL is noted (that deed STATES nothing any more)", Section4RunTest::spentByFalls);
        DUE.holds("(What was DRAWN, STATED stays.)", Section4RunTest::whatStays);
        DUE.end();
    }

    private static String fall(int failure, int at) {
        return Due.fall(failure, at);
    }

    private static void inOrder() {
        DUE.does("draw 1;a=2;draw a;state 1;a=3;draw a;state 0;", "1 2 3", "1 0", "");
        DUE.does("", "", "", "");
    }

    private static void nothingAtFirst() {
        DUE.does("if 0{a=1;}draw none(a);b=a;draw none(b);", "1 1", "", "");
        DUE.does("if 0{a=1;}draw a;", "", "", fall(Due.NOTHING, 10));
        FigureTexts x = Due.run("f=free(1,1);if x(f){a=1;}draw none(a);");
        DUE.is("DRAWN", Due.drawn(x), "0");
        x.move(0, 0, 0, 1);
        x.run();
        DUE.is("DRAWN in the next RUN", Due.drawn(x), "1");
    }

    private static void nothingElse() {
        DUE.does("draw 1/0+2/0;", "", "", fall(Due.ZERO, 6));
        DUE.does("draw mid(1/0,2/0);", "", "", fall(Due.ZERO, 10));
        DUE.does("w=row(1);w[1/0]=2/0;", "", "", fall(Due.ZERO, 12));
        DUE.does("w=row(1);w[0]=5;w[0]=1/0;draw w[0];", "5", "", fall(Due.ZERO, 22));
        DUE.does("macro f(){draw 7;give 1;}draw 1/0+f();", "", "", fall(Due.ZERO, 31));
        DUE.does("macro f(){draw 7;give 0;}draw 1/f();draw 2;", "7 2", "", fall(Due.ZERO, 31));
    }

    private static void bytes() {
        DUE.does("draw  1  /  0 ;", "", "", fall(Due.ZERO, 9));
        DUE.does("draw x( 1 );", "", "", fall(Due.CAST, 5));
        DUE.does("a=row(1);draw - a;", "", "", fall(Due.CAST, 14));
        DUE.does("a=row(1);draw 1+ a [ 1 ];", "", "", fall(Due.INDEX, 17));
        DUE.does("draw (1-1)/(1-1);", "", "", fall(Due.ZERO, 10));
        DUE.does("draw 1<row(1);", "", "", fall(Due.CAST, 6));
        DUE.does(" \n draw 1/0;", "", "", fall(Due.ZERO, 9));
    }

    private static void names() {
        DUE.does("a=1;b=a;a=2;draw a;draw b;", "2 1", "", "");
        DUE.does("a=1;a=1/0;draw none(a);", "1", "", fall(Due.ZERO, 7));
        DUE.does("a=1;b=row(1);a=b[0];draw none(a);", "1", "", "");
    }

    private static void placeThenThing() {
        DUE.does("if 0{w=1;}w[1/0]=1;", "", "", fall(Due.ZERO, 13));
        DUE.does("if 0{w=1;}w[0]=1/0;", "", "", fall(Due.ZERO, 16));
        DUE.does("if 0{w=1;}w[1/0]=999999999*2;", "", "", fall(Due.ZERO, 13));
        DUE.does("w=row(2);w[0]=5;w[1]=w[0]+1;draw w[0];draw w[1];", "5 6", "", "");
        DUE.does("w=row(2);v=w;v[0]=5;draw w[0];w[0]=w[1];draw none(v[0]);", "5 1", "", "");
        DUE.does("macro f(w,k){draw k;w[0]=k;give k;}w=row(2);w[f(w,1)]=f(w,0);draw w[0];draw w[1];", "1 0 0 0", "", "");
    }

    private static void placeName() {
        DUE.does("if 0{w=1;}w[0]=1;", "", "", fall(Due.NOTHING, 10));
        DUE.does("if 0{w=1;}w[w]=w;", "", "", fall(Due.NOTHING, 10));
        DUE.does("w=1;w[0]=w;", "", "", fall(Due.CAST, 4));
        DUE.does("w=point(1,1);w[w]=w;", "", "", fall(Due.CAST, 13));
        DUE.does("w=1;if 0{n=1;}w[n]=1;", "", "", fall(Due.CAST, 14));
    }

    private static void placePlace() {
        DUE.does("w=numbers(2);w[w[0]]=w;", "", "", fall(Due.NOTHING, 13));
        DUE.does("w=numbers(2);w[w]=w;", "", "", fall(Due.CAST, 13));
        DUE.does("w=numbers(2);w[1/2]=w;", "", "", fall(Due.CAST, 13));
        DUE.does("w=numbers(2);w[9/2]=w;", "", "", fall(Due.CAST, 13));
    }

    private static void placeIndex() {
        DUE.does("w=numbers(2);w[2]=w;", "", "", fall(Due.INDEX, 13));
        DUE.does("w=numbers(2);w[-1]=w;", "", "", fall(Due.INDEX, 13));
        DUE.does("w=row(0);w[0]=1;", "", "", fall(Due.INDEX, 9));
        DUE.does("w=row(20);w[19]=1;w[20]=1;draw w[19];", "1", "", fall(Due.INDEX, 18));
        DUE.does("w=row(2);w[999999999]=1;", "", "", fall(Due.INDEX, 9));
        DUE.does("w=row(2);w[2]=w[0];", "", "", fall(Due.INDEX, 9));
    }

    /** THINGS of KIND 0 to 6 are put at places 0 to 6. */
    private static void stores(String tool, String due) {
        String text = "w=" + tool + "(7);w[0]=1;w[1]=point(1,1);w[2]=free(1,1);w[3]=line(point(1,2),point(3,4));"
            + "w[4]=seg(point(1,2),point(3,4));w[5]=round(point(1,1),1);w[6]=w;k=0;times 7 {state 1-none(w[k]);k=k+1;}";
        StringBuilder falls = new StringBuilder();
        for (int kind = 0; kind < 7; kind++) {
            if (due.charAt(2 * kind) == '0') {
                falls.append(falls.length() > 0 ? " " : "").append(fall(Due.STORE, text.indexOf("w[" + kind + "]=")));
            }
        }
        DUE.does(text, "", due, falls.toString());
    }

    private static void placeStore() {
        stores("row", "1 1 1 1 1 1 1");
        stores("points", "0 1 1 0 0 0 0");
        stores("lines", "0 0 0 1 1 0 0");
        stores("numbers", "1 0 0 0 0 0 0");
        DUE.does("w=numbers(2);w[1]=1;w[1]=w;draw w[1];", "1", "", fall(Due.STORE, 20));
    }

    private static void nothingEverywhere() {
        for (String tool : new String[] {"row", "points", "lines", "numbers"}) {
            DUE.does("w=" + tool + "(2);w[0]=w[1];state none(w[0]);", "", "1", "");
        }
        DUE.does("w=numbers(2);w[0]=5;w[0]=w[1];state none(w[0]);", "", "1", "");
    }

    private static void placeByte() {
        DUE.does("w=row(1);  w [ 1 ] = 1;", "", "", fall(Due.INDEX, 11));
        DUE.does("w=points(1);if 1{ w[0]=1;}", "", "", fall(Due.STORE, 18));
    }

    private static void ifs() {
        DUE.does("if 1{draw 1;}else{draw 2;}", "1", "", "");
        DUE.does("if -1/2{draw 1;}else{draw 2;}", "1", "", "");
        DUE.does("if 0{draw 1;}else{draw 2;}", "2", "", "");
        DUE.does("if 0{draw 1;}draw 3;", "3", "", "");
        DUE.does("if 1{}else{draw 2;}draw 3;", "3", "", "");
        DUE.does("if 0{draw 1;}else{}draw 3;", "3", "", "");
        DUE.does("if 1{draw 1;draw 2;}else{draw 3;}draw 4;", "1 2 4", "", "");
    }

    private static void ifFalls() {
        DUE.does("if 1/0{draw 1;}else{draw 2;}draw 3;", "2 3", "", fall(Due.ZERO, 4));
        DUE.does("a=1;if point(1,1){draw 1;}else{draw 2;}", "2", "", fall(Due.CAST, 4));
        DUE.does("a=1;if row(0){draw 1;}else{draw 2;}", "2", "", fall(Due.CAST, 4));
        DUE.does("if 0{a=1;}if a{draw 1;}else{draw 2;}", "2", "", fall(Due.NOTHING, 10));
        DUE.does("if 0{a=1;}if a{draw 1;}draw 3;", "3", "", fall(Due.NOTHING, 10));
    }

    private static void times() {
        DUE.does("a=0;times 3{a=a+1;draw a;}", "1 2 3", "", "");
        DUE.does("times 1{draw 1;}", "1", "", "");
        DUE.does("times 0{draw 1;}draw 2;", "2", "", "");
        DUE.does("a=2;times a{a=5;draw a;}", "5 5", "", "");
        DUE.does("times 2{times 3{draw 1;}draw 2;}", "1 1 1 2 1 1 1 2", "", "");
        DUE.does("times 6/3{draw 1;}", "1 1", "", "");
        DUE.does("times 2{draw 1/0;draw 1;}", "1 1", "", fall(Due.ZERO, 14) + " " + fall(Due.ZERO, 14));
    }

    private static void timesCast() {
        DUE.does("draw 1;times 1/2{draw 1;}", "1", "", fall(Due.CAST, 7));
        DUE.does("draw 1;times -1/2{draw 1;}", "1", "", fall(Due.CAST, 7));
        DUE.does("draw 1;times row(1){draw 1;}", "1", "", fall(Due.CAST, 7));
        DUE.does("if 0{a=1;}times a{draw 1;}draw 2;", "2", "", fall(Due.NOTHING, 10));
    }

    private static void timesSize() {
        DUE.does("draw 1;times -1{draw 1;}", "1", "", fall(Due.SIZE, 7));
        DUE.does("draw 1;times -999999999{draw 1;}", "1", "", fall(Due.SIZE, 7));
    }

    private static void timesFall() {
        DUE.does("times 1/0{draw 1;}draw 2;", "2", "", fall(Due.ZERO, 7));
    }

    private static void states() {
        DUE.does("state 1;state 0;state -3/4;state 1=1;state 1<1;state 999999999;", "", "1 0 1 1 0 1", "");
    }

    private static void stateFalls() {
        DUE.does("state 1/0;state 1;", "", "-1 1", fall(Due.ZERO, 7));
        DUE.does("state point(1,1);", "", "-1", fall(Due.CAST, 0));
        DUE.does("state row(1);state 0;", "", "-1 0", fall(Due.CAST, 0));
        DUE.does("if 0{a=1;}state a;", "", "-1", fall(Due.NOTHING, 10));
    }

    private static void draws() {
        DUE.does("draw 1;draw 1/0;draw 2;", "1 2", "", fall(Due.ZERO, 13));
        DUE.does("if 0{a=1;}draw a;draw 3;", "3", "", fall(Due.NOTHING, 10));
        DUE.does("a=1;draw a;draw a;a=2;draw a;", "1 1 2", "", "");
        DUE.does("draw point(1,2);draw row(3);draw round(point(0,0),1);", "(1, 2) {3} <0, 0, 1>", "", "");
    }

    private static void roomForDrawn() {
        DUE.is("40", Due.read("times 40{draw 1;}").run(), 40);
        FigureTexts x = Due.read("times 40{draw 1;}draw 1/0;draw 2;state 1;");
        DUE.is("more", x.run(), 40);
        DUE.is("FALLS", Due.falls(x), fall(Due.ROOM, 17) + " " + fall(Due.ROOM, 26));
        DUE.is("STEPS without the exps", x.count(4), 2 + 40 * 3 + 2 + 2);
        DUE.is("STATED has room of its own", Due.stated(x), "1");
        FigureTexts y = Due.run("if 0{n=1;}times 40{draw 1;}draw n;");
        DUE.is("ROOM ahead of NOTHING", Due.falls(y), fall(Due.ROOM, 27));
    }

    private static void roomForStated() {
        FigureTexts x = Due.read("times 39{state 0;}state 1/0;state 1/0;state 1;draw 1;");
        DUE.is("run()", x.run(), 1);
        DUE.is("STATED", x.count(1), 40);
        DUE.is("the 40th", x.stated(39), Due.NONE);
        DUE.is("FALLS", Due.falls(x), fall(Due.ZERO, 25) + " " + fall(Due.ROOM, 28) + " " + fall(Due.ROOM, 38));
        DUE.is("STEPS without the exps", x.count(4), 2 + 39 * 3 + 4 + 1 + 1 + 2);
        DUE.throwsOutOfBounds("stated(40)", () -> x.stated(40));
    }

    private static void roomWithin() {
        FigureTexts x = Due.run("macro f(){draw 2;give 3;}times 39{draw 1;}draw f();");
        DUE.is("DRAWN", x.count(0), 40);
        DUE.is("the last of them", x.number(39, 0, 0), 2);
        DUE.is("the FALL", Due.falls(x), fall(Due.ROOM, 42));
        FigureTexts y = Due.run("macro f(){state 0;give 3;}times 39{state 1;}state f();");
        DUE.is("STATED", y.count(1), 40);
        DUE.is("the last of them", y.stated(39), 0);
        DUE.is("the FALL", Due.falls(y), fall(Due.ROOM, 44));
        FigureTexts z = Due.run("macro f(){draw 2;give 3;}times 38{draw 1;}draw f();");
        DUE.is("40 are not too many", z.number(39, 0, 0), 3);
        DUE.is("no FALL", z.count(2), 0);
    }

    private static void deedsByte() {
        DUE.does("  state point(1,1);", "", "-1", fall(Due.CAST, 2));
        DUE.does("if 1{  times -1{}}", "", "", fall(Due.SIZE, 7));
        DUE.does("if 0{a=1;}  draw  a;", "", "", fall(Due.NOTHING, 12));
        DUE.does(" if row(1){}", "", "", fall(Due.CAST, 1));
    }

    private static void params() {
        DUE.does("macro f(p,q){r=p+q;give r*r;}draw f(1,2);draw f(f(1,0),2);", "9 9", "", "");
        DUE.does("macro f(a,b,c,d){give a*1000+b*100+c*10+d;}draw f(1,2,3,4);", "1234", "", "");
        DUE.does("macro f(p){give none(p);}if 0{a=1;}draw f(a);draw f(1);", "1 0", "", "");
        DUE.does("macro f(p){p=p+1;give p;}p=1;draw f(p);draw p;", "2 1", "", "");
        DUE.does("macro f(w){w[0]=9;}w=row(1);a=f(w);draw w[0];", "9", "", "");
        DUE.does("macro f(p){give p;}draw f(1/0);", "", "", fall(Due.ZERO, 27));
        DUE.does("macro f(p){give p;}macro g(p){a=1+f(p);give a+f(a);}draw g(3);", "8", "", "");
    }

    private static void otherNames() {
        DUE.does("macro f(p){if p{q=p;}give none(q);}draw f(1);draw f(0);", "0 1", "", "");
        DUE.does("macro f(){if 0{q=1;}give none(q);}q=7;draw f();draw q;", "1 7", "", "");
        DUE.does("macro f(){q=1;give q;}macro g(){q=2;r=f();give q;}draw g();", "2", "", "");
        DUE.does("macro f(p,q){give q;}macro g(p){if 0{b=1;}give none(b);}a=f(1,2);draw g(3);", "1", "", "");
    }

    private static void gives() {
        DUE.does("macro f(){give 7;}f=f();draw f;", "7", "", "");
        DUE.does("macro f(){give 1;draw 2;give 3;}draw f();", "1", "", "");
        DUE.does("macro f(p){draw p;state p;give p+1;}draw f(4);draw 5;", "4 5 5", "1", "");
        DUE.does("macro f(p){draw 1/p;give p;}draw f(0);", "0", "", fall(Due.ZERO, 17));
        DUE.does("macro f(p){state p;give p;}state f(0)+1;", "", "0 1", "");
        DUE.does("macro f(){give row(2);}w=f();w[0]=5;draw w;draw w[0];draw none(w[1]);", "{2} 5 1", "", "");
    }

    private static void givesNothing() {
        DUE.does("macro f(p){q=p;}draw none(f(1));", "1", "", "");
        DUE.does("macro f(){}draw none(f());a=f();draw a;", "1", "", fall(Due.NOTHING, 32));
        DUE.does("macro f(){give 1/0;draw 2;}draw none(f());", "1", "", fall(Due.ZERO, 16));
        DUE.does("macro f(p){if p{give p;}}draw f(2);draw none(f(0));", "2 1", "", "");
        DUE.does("macro f(){if 0{a=1;}give a;}draw none(f());", "1", "", "");
        DUE.does("macro f(){}draw 1+f();", "", "", fall(Due.NOTHING, 17));
    }

    private static void givesOutOfBlocks() {
        DUE.does("macro f(){times 5{if 1{give 3;}draw 4;}draw 5;}draw f()+1;", "4", "", "");
        DUE.does("macro f(){if 1/0{draw 1;}else{times 3{give 6;}}}draw 1+f()*2;", "13", "", fall(Due.ZERO, 14));
        DUE.does("macro f(p){times 3{p=p+1;if 2<p{give p;}}give 100;}draw f(0);draw f(-5);", "3 100", "", "");
        DUE.does("macro f(){times 2{give 1/0;}draw 9;}draw none(f());", "1", "", fall(Due.ZERO, 24));
    }

    /** Macro i calls the one ahead of it, so that i others are within it. */
    private static String chain(int many) {
        StringBuilder text = new StringBuilder("macro ma(){give 1;}");
        for (int i = 1; i < many; i++) {
            text.append("macro m").append((char) ('a' + i)).append("(){give m").append((char) ('a' + i - 1)).append("()+1;}");
        }
        return text.toString();
    }

    private static void withinEight() {
        String eight = chain(8);
        DUE.does(eight + "draw mh();", "8", "", "");
        String nine = chain(9);
        FigureTexts x = Due.run(nine + "draw none(mi());");
        DUE.is("the ninth", x.fall(0, 0), Due.ROOM);
        DUE.is("its byte", x.fall(0, 1), nine.indexOf("ma()+1"));
        DUE.is("then nothing comes, and sums of it fall", x.count(2), 8);
        DUE.is("the first such sum", x.fall(1, 0), Due.NOTHING);
        DUE.is("its byte", x.fall(1, 1), nine.indexOf("mb()+1") + 4);
        DUE.is("what comes at last", Due.drawn(x), "1");
        DUE.does("macro f(p){give p+1;}draw f(f(f(f(f(f(f(f(f(f(0))))))))));", "10", "", "");
        DUE.does(eight + "macro f(p,q){give p+q;}draw f(mh(),mh());", "16", "", "");
        StringBuilder named = new StringBuilder("macro ma(p){q=p;give q;}");
        for (char m = 'b'; m <= 'h'; m++) {
            named.append("macro m").append(m).append("(p){q=p;r=m").append((char) (m - 1)).append("(q+1);give r+q;}");
        }
        DUE.does(named + "draw mh(5);", "68", "", "");
        String arguments = "macro na(p){give p;}" + chain(7).replace("give 1;", "give na(1/0);") + "draw none(mg());";
        DUE.is("its arguments are worked out first", Due.run(arguments).fall(0, 0), Due.ZERO);
    }

    private static void takes(String text, int steps) {
        DUE.is("STEPS of " + text, Due.run(text).count(4), steps);
    }

    private static void stepsOfDeeds() {
        takes("", 0);
        takes("a=1;", 2);
        takes("state 1;draw 1;", 4);
        takes("if 1{a=1;}", 4);
        takes("if 0{a=1;}", 2);
        takes("if 0{a=1;}else{a=1;a=2;}", 6);
        takes("if 0{a=1;}else{}", 2);
        takes("macro f(p){give p;}draw f(1);", 5);
        takes("macro f(p){draw p;give p;draw p;}", 0);
        takes("macro f(p){give 1/0;draw 1;}draw none(f(1));", 8);
    }

    private static void stepsOfNodes() {
        takes("a=-1+2*3;", 7);
        takes("a=((1));", 2);
        takes("a=row(1);a[0]=1;draw a[0];", 9);
        takes("a=1/0+2;", 5);
        takes("a=2+1/0;", 6);
        takes("a=(1/0)*2+3-4;", 7);
        takes("a=-(1/0);", 5);
        takes("a=mid(1/0,1);", 5);
        takes("a=mid(1,1/0);", 6);
        takes("a=row(1);a[1/0]=1;", 7);
        takes("a=" + Due.times(248, "-") + "1;", 250);
    }

    private static void stepsOfTurns() {
        takes("times 0{}", 2);
        takes("times 1{}", 3);
        takes("times 5{}", 7);
        takes("times 3{a=1;}", 11);
        takes("times 2{times 2{}}", 12);
        takes("times -1{}", 3);
    }

    private static void spentBySteps() {
        FigureTexts x = Due.read("draw 5;state 1;times 394{}");
        DUE.is("400 STEPS", x.run(), 1);
        DUE.is("count(4)", x.count(4), 400);
        DUE.is("count(5)", x.count(5), 0);
        FigureTexts y = Due.read("draw 5;state 1;times 395{}draw 6;");
        DUE.is("one more, a turn", y.run(), Due.NONE);
        DUE.is("count(4)", y.count(4), 400);
        DUE.is("count(5)", y.count(5), 1);
        DUE.is("no FALL", y.count(2), 0);
        DUE.is("one more, a deed", Due.read("times 398{}draw 1;").run(), Due.NONE);
        DUE.is("one more, a NODE", Due.read("times 397{}draw 1;").run(), Due.NONE);
        DUE.is("just enough", Due.read("times 396{}draw 1;").run(), 1);
        FigureTexts z = Due.read("times 396{}state 1+1;");
        DUE.is("in a state", z.run(), Due.NONE);
        DUE.is("nothing is STATED", z.count(1), 0);
        FigureTexts w = Due.read("times 395{}draw 1/0;");
        DUE.is("in an exp that would FAIL", w.run(), Due.NONE);
        DUE.is("no FALL", w.count(2), 0);
        FigureTexts v = Due.read("times 394{}draw 1/0;");
        DUE.is("behind one that FAILS", v.run(), 0);
        DUE.is("its FALL", v.count(2), 1);
        FigureTexts full = Due.read("times 40{draw 1;}times 276{}draw 2;");
        DUE.is("at a draw without ROOM", full.run(), Due.NONE);
        DUE.is("STEPS", full.count(4), 400);
        DUE.is("no FALL", full.count(2), 0);
        DUE.is("many turns", Due.read("times 999999999{}").run(), Due.NONE);
        DUE.is("turns within turns", Due.read("times 99{times 99{times 99{a=1;}}}").run(), Due.NONE);
        DUE.is("in a macro", Due.read("macro f(){times 500{}give 1;}draw f();").run(), Due.NONE);
    }

    private static void spentByFalls() {
        FigureTexts x = Due.read("times 11{state 1/0;}draw 1;");
        DUE.is("11 FALLS", x.run(), 1);
        DUE.is("STATED", x.count(1), 11);
        DUE.is("count(5)", x.count(5), 0);
        FigureTexts y = Due.read("draw 7;times 12{state 1/0;}draw 1;");
        DUE.is("12 FALLS", y.run(), Due.NONE);
        DUE.is("count(2)", y.count(2), 12);
        DUE.is("that deed STATES nothing", y.count(1), 11);
        DUE.is("count(5)", y.count(5), 1);
        DUE.is("STEPS up to there", y.count(4), 2 + 2 + 12 * 5);
        DUE.is("the last FALL", y.fall(11, 0), Due.ZERO);
        DUE.is("its byte", y.fall(11, 1), 23);
        FigureTexts z = Due.run("times 11{a=1/0;}if 1/0{}else{draw 1;}");
        DUE.is("the other block of an if is not done", z.count(0), 0);
        FigureTexts w = Due.run("times 11{a=1/0;}state row(1);");
        DUE.is("a state that FAILS itself", w.count(1), 0);
        FigureTexts v = Due.run("times 11{a=1/0;}times 40{state 1;}draw 1/0;");
        DUE.is("what was STATED ahead", v.count(1), 40);
        DUE.is("the last deed of all", v.count(5), 1);
    }

    private static void whatStays() {
        FigureTexts x = Due.run("f=free(1,2);draw f;draw 5;state 1;state 0;draw 1/0;times 500{}");
        DUE.is("count(5)", x.count(5), 1);
        DUE.is("DRAWN", Due.drawn(x), "(1, 2) 5");
        DUE.is("STATED", Due.stated(x), "1 0");
        DUE.is("FALLS", x.count(2), 1);
        DUE.is("FREES", x.count(3), 1);
        FigureTexts y = Due.run("draw 7;state 1;times 12{a=1/0;}");
        DUE.is("DRAWN", Due.drawn(y), "7");
        DUE.is("STATED", Due.stated(y), "1");
    }
}
