/** Section 1 of the document, TEXTS: FAULTS, which is told, and where. */
public final class Section1FaultsTest {
    private static final Due DUE = new Due("Section 1, FAULTS");

    public static void main(String[] args) {
        DUE.holds("the first TOKEN that has one", Section1FaultsTest::firstToken);
        DUE.holds("of these the least", Section1FaultsTest::least);
        DUE.holds("(the end is one, too, at the text's length)", Section1FaultsTest::theEnd);
        DUE.holds("1 it is none", Section1FaultsTest::noToken);
        DUE.holds("2 it can't stand there", Section1FaultsTest::cantStand);
        DUE.holds("3 more than 12 macros (at the NAME)", Section1FaultsTest::macros);
        DUE.holds("3 more than 4 PARAMS of a macro (at the NAME)", Section1FaultsTest::params);
        DUE.holds("3 more than 20 NAMES in the figure (at the NAME)", Section1FaultsTest::namesOfTheFigure);
        DUE.holds("3 more than 20 NAMES (PARAMS and those that a deed tells) in a macro (at the NAME)", Section1FaultsTest::namesOfAMacro);
        DUE.holds("3 more than 250 NODES (at the NODE's first TOKEN)", Section1FaultsTest::nodes);
        DUE.holds("3 more than 250 NODES (of what is between two at that sign)", Section1FaultsTest::nodesBetween);
        DUE.holds("3 more than 250 NODES, those in macros, too", Section1FaultsTest::nodesInMacros);
        DUE.holds("3 within 10 others: blocks", Section1FaultsTest::deepBlocks);
        DUE.holds("3 within 10 others: ( of exps", Section1FaultsTest::deepBrackets);
        DUE.holds("3 within 10 others: ( of CALLS", Section1FaultsTest::deepCalls);
        DUE.holds("3 within 10 others: [", Section1FaultsTest::deepPlaces);
        DUE.holds("3 within 10 others: of all sorts", Section1FaultsTest::deepMixed);
        DUE.holds("3 within 10 others: not beside them", Section1FaultsTest::notDeep);
        DUE.holds("4 a macro's NAME that is a TOOL's", Section1FaultsTest::macroLikeTool);
        DUE.holds("4 a macro's NAME that is another macro's", Section1FaultsTest::macroLikeMacro);
        DUE.holds("4 a PARAM that is told already in it", Section1FaultsTest::paramTwice);
        DUE.holds("5 a NAME that no deed and no PARAM told ahead of it", Section1FaultsTest::untold);
        DUE.holds("5 in its macro, in the figure", Section1FaultsTest::untoldInItsMacro);
        DUE.holds("5 (a deed tells its NAME behind its exp)", Section1FaultsTest::behindItsExp);
        DUE.holds("5 (of NAME [: also that one)", Section1FaultsTest::untoldOfPlace);
        DUE.holds("5 a CALL of no TOOL and no macro that was ended ahead of it", Section1FaultsTest::untoldCalls);
        DUE.holds("5 (a NAME with ( behind it is a CALL)", Section1FaultsTest::nameWithBracket);
        DUE.holds("6 more or fewer arguments than wanted (at the CALL's NAME)", Section1FaultsTest::arguments);
        DUE.holds("6 asked at its end bracket, when no TOKEN up to there has another one", Section1FaultsTest::askedAtTheEnd);
        DUE.end();
    }

    private static void firstToken() {
        DUE.faults("a = b; $", 5, 4);
        DUE.faults("a = 1 $ b;", 1, 6);
        DUE.faults("a = ; $", 2, 4);
        DUE.faults("a = b ;;", 5, 4);
        DUE.faults("a = b $;", 5, 4);
        DUE.faults("macro mid(p,p){}", 4, 6);
        DUE.faults("macro f(p,p){$", 4, 10);
        DUE.faults(Due.names(20) + "zz=$;", 3, 80);
        DUE.faults(Due.names(20) + "zz=yy;", 3, 80);
        DUE.faults("draw c(1,$", 5, 5);
    }

    private static void least() {
        DUE.faults("macro f(p,q,r,s,p){}", 3, 16);
        DUE.faults("macro f(p,q,r,s,1){}", 2, 16);
        DUE.faults("macro f(p,q,r,s,$){}", 1, 16);
        DUE.faults(Due.macros(12, "(){}") + "macro ma(){}", 3, 150);
        DUE.faults(Due.macros(12, "(){}") + "macro mid(){}", 3, 150);
        DUE.faults(Due.macros(12, "(){}") + "macro if(){}", 2, 150);
        DUE.faults(Due.macros(12, "(){}") + "macro M(){}", 1, 150);
        String full = Due.times(124, "draw 1;");
        DUE.faults(full + "draw 1;$", 1, 875);
        DUE.faults(full + "draw 1;give 1;", 2, 875);
        DUE.faults(full + "draw 1+$;", 3, 874);
        DUE.faults(full + "draw -zz;", 3, 874);
        DUE.faults(full + "draw -$;", 1, 874);
        DUE.faults(full + "draw -;", 2, 874);
        DUE.faults(full + "draw -zz(1);", 3, 874);
        DUE.faults("a=" + Due.times(10, "(") + "$", 1, 12);
        DUE.faults("a=" + Due.times(10, "(") + "[", 2, 12);
        DUE.faults("a=" + Due.times(10, "(") + "{", 2, 12);
    }

    private static void theEnd() {
        DUE.faults("a", 2, 1);
        DUE.faults("a=1", 2, 3);
        DUE.faults("a=1  \n", 2, 6);
        DUE.faults("macro f(){", 2, 10);
        DUE.faults("draw mid(1,2)", 2, 13);
        DUE.faults("draw x(1", 2, 8);
        DUE.faults("if 1 {} else", 2, 12);
        DUE.faults(Due.times(124, "draw 1;") + "draw 1", 2, 874);
    }

    private static void noToken() {
        DUE.faults("$", 1, 0);
        DUE.faults("a$=1;", 1, 1);
        DUE.faults("a=1;$", 1, 4);
        DUE.faults("draw 12ab;", 1, 5);
        DUE.faults("macro f(P){}", 1, 8);
        DUE.faults("draw mid(1,2)$;", 1, 13);
        DUE.faults("if 1 $", 1, 5);
        DUE.faults("if 1{}else $", 1, 11);
        DUE.faults("a=row(1);a[$", 1, 11);
        DUE.faults("a=row(1);a[0]$", 1, 13);
        DUE.faults("macro f$", 1, 7);
        DUE.faults("macro f()$", 1, 9);
    }

    private static void cantStand() {
        DUE.faults("macro macro(){}", 2, 6);
        DUE.faults("a = if;", 2, 4);
        DUE.faults("draw draw;", 2, 5);
        DUE.faults("a = 1; macro", 2, 7);
        DUE.faults("zz;", 2, 2);
        DUE.faults("zz(1);", 2, 2);
    }

    private static void macros() {
        DUE.reads(Due.macros(12, "(){}"), 0);
        DUE.faults(Due.macros(13, "(){}"), 3, 150);
        DUE.faults(Due.macros(12, "(){}") + "macro\n\nzz", 3, 151);
        DUE.faults(Due.macros(12, "(){}") + "macro", 2, 149);
    }

    private static void params() {
        DUE.reads("macro f(p,q,r,s){}", 0);
        DUE.faults("macro f(p,q,r,s,t){}", 3, 16);
        DUE.faults("macro f(p,q,r,s,", 2, 16);
        DUE.reads("macro f(p,q,r,s){}macro g(p,q,r,s){}", 0);
    }

    private static void namesOfTheFigure() {
        DUE.reads(Due.names(20), 40);
        DUE.reads(Due.names(20) + "a=2;t=a;", 44);
        DUE.faults(Due.names(21), 3, 80);
        DUE.faults(Due.names(20) + "if 1{zz=1;}", 3, 85);
        DUE.faults(Due.names(20) + "if 1{}else{times 1{zz=1;}}", 3, 99);
        DUE.faults(Due.names(20) + "zz[0]=1;", 5, 80);
        DUE.faults(Due.names(20) + "zz;", 2, 82);
        DUE.faults(Due.names(20) + "zz$;", 1, 82);
        DUE.faults(Due.names(20) + "a=zz;", 5, 82);
    }

    private static void namesOfAMacro() {
        DUE.reads("macro f(){" + Due.names(20) + "}" + Due.names(20), 80);
        DUE.faults("macro f(){" + Due.names(21) + "}", 3, 90);
        DUE.reads("macro f(w,x,y,z){" + Due.names(16) + "}", 32);
        DUE.faults("macro f(w,x,y,z){" + Due.names(17) + "}", 3, 17 + 64);
        DUE.reads("macro f(a,b,c,d){" + Due.names(20) + "}", 40);
        DUE.reads("macro f(){" + Due.names(20) + "}macro g(){" + Due.names(20) + "}", 80);
    }

    private static void nodes() {
        String full = Due.times(124, "draw 1;");
        DUE.reads(full + "draw 1;", 250);
        DUE.reads(full + "draw (1);", 250);
        DUE.faults(full + "draw 1;draw 1;", 3, 875);
        DUE.faults(full + "draw 1;state 1;", 3, 875);
        DUE.faults(full + "draw 1;a=1;", 3, 875);
        DUE.faults(full + "draw 1;a;", 3, 875);
        DUE.faults(full + "draw 1;if 1{}", 3, 875);
        DUE.faults(full + "draw 1;times 1{}", 3, 875);
        DUE.faults(full + "draw -1;", 3, 874);
        DUE.faults(full + "draw --1;", 3, 874);
        DUE.faults(full + "draw x(1);", 3, 875);
        DUE.faults(full + "draw x(x(1));", 3, 875);
        DUE.faults(full + "draw -x(1);", 3, 874);
        DUE.faults("a=1;" + Due.times(123, "draw 1;") + "draw -a;", 3, 4 + 861 + 6);
        DUE.faults("a=1;" + Due.times(123, "draw 1;") + "draw -a[0];", 3, 4 + 861 + 6);
        DUE.faults("a=1;" + Due.times(123, "draw 1;") + "draw a[a];", 3, 4 + 861 + 7);
        DUE.faults("a=1;" + Due.times(123, "draw 1;") + "a[1]=1;", 3, 4 + 861 + 5);
        DUE.reads("a=" + Due.times(248, "-") + "1;", 250);
        DUE.faults("a=" + Due.times(249, "-") + "1;", 3, 251);
        DUE.faults("a=" + Due.times(250, "-") + "1;", 3, 251);
        DUE.faults("a=" + Due.times(2900, "-"), 3, 251);
    }

    private static void nodesBetween() {
        String full = Due.times(124, "draw 1;");
        for (String sign : new String[] {"+", "-", "*", "/", "=", "<"}) {
            DUE.faults(full + "draw 1" + sign + "1;", 3, 874);
            DUE.faults(full + "draw (1)" + sign + "zz;", 3, 876);
        }
        DUE.reads("a=1" + Due.times(124, "+1") + ";", 250);
        DUE.faults("a=1" + Due.times(125, "+1") + ";", 3, 2 + 249);
        DUE.faults(Due.times(123, "draw 1;") + "draw -1+1;", 3, 861 + 8);
    }

    private static void nodesInMacros() {
        DUE.reads("macro f(){" + Due.times(60, "give 1;") + "}" + Due.times(65, "draw 1;"), 250);
        DUE.faults("macro f(){" + Due.times(60, "give 1;") + "}" + Due.times(66, "draw 1;"), 3, 11 + 420 + 455);
        DUE.faults("macro f(){" + Due.times(126, "give 1;") + "}", 3, 10 + 875);
    }

    private static void deepBlocks() {
        DUE.reads(Due.times(10, "if 1{") + Due.times(10, "}"), 20);
        DUE.faults(Due.times(11, "if 1{") + Due.times(11, "}"), 3, 54);
        DUE.faults(Due.times(11, "times 1{") + Due.times(11, "}"), 3, 87);
        DUE.reads(Due.times(10, "if 1{}else{") + Due.times(10, "}"), 20);
        DUE.faults(Due.times(10, "if 1{}else{") + "if 1{}" + Due.times(10, "}"), 3, 114);
        DUE.faults(Due.times(9, "if 1{") + "if 1{}else{if 1{}}", 3, 60);
        DUE.reads("macro f(){" + Due.times(9, "if 1{") + Due.times(9, "}") + "}", 18);
        DUE.faults("macro f(){" + Due.times(10, "if 1{") + Due.times(10, "}") + "}", 3, 59);
        DUE.faults("macro f(p){" + Due.times(10, "if p{") + Due.times(10, "}") + "}", 3, 60);
    }

    private static void deepBrackets() {
        DUE.reads("a=" + Due.times(10, "(") + "1" + Due.times(10, ")") + ";", 2);
        DUE.faults("a=" + Due.times(11, "(") + "1" + Due.times(11, ")") + ";", 3, 12);
        DUE.reads("a=" + Due.times(10, "-(") + "1" + Due.times(10, ")") + ";", 12);
        DUE.faults("a=" + Due.times(11, "1+(") + "1" + Due.times(11, ")") + ";", 3, 34);
        DUE.faults("a=" + Due.times(2900, "("), 3, 12);
    }

    private static void deepCalls() {
        DUE.reads("a=" + Due.times(10, "x(") + "1" + Due.times(10, ")") + ";", 12);
        DUE.faults("a=" + Due.times(11, "x(") + "1" + Due.times(11, ")") + ";", 3, 23);
        DUE.reads("macro f(p){}a=" + Due.times(10, "f(") + "1" + Due.times(10, ")") + ";", 12);
        DUE.faults("macro f(p){}a=" + Due.times(11, "f(") + "1" + Due.times(11, ")") + ";", 3, 35);
        DUE.faults("macro f(){}a=" + Due.times(10, "(") + "f()" + Due.times(10, ")") + ";", 3, 24);
        DUE.faults("a=" + Due.times(10, "(") + "zz(1)" + Due.times(10, ")") + ";", 5, 12);
    }

    private static void deepPlaces() {
        DUE.reads("a=1;b=" + Due.times(10, "a[") + "1" + Due.times(10, "]") + ";", 14);
        DUE.faults("a=1;b=" + Due.times(11, "a[") + "1" + Due.times(11, "]") + ";", 3, 27);
        DUE.reads("a=1;a[" + Due.times(9, "a[") + "1" + Due.times(9, "]") + "]=1;", 14);
        DUE.faults("a=1;a[" + Due.times(10, "a[") + "1" + Due.times(10, "]") + "]=1;", 3, 25);
        DUE.reads("a=1;" + Due.times(9, "if 1{") + "a[1]=2;" + Due.times(9, "}"), 23);
        DUE.faults("a=1;" + Due.times(10, "if 1{") + "a[1]=2;" + Due.times(10, "}"), 3, 55);
    }

    private static void deepMixed() {
        DUE.reads(Due.times(9, "times 1{") + "a=(1);" + Due.times(9, "}"), 20);
        DUE.faults(Due.times(9, "times 1{") + "a=((1));" + Due.times(9, "}"), 3, 75);
        DUE.reads("a=1;" + Due.times(9, "if 1{") + "a[1]=(2);" + Due.times(9, "}"), 23);
        DUE.faults("macro f(){" + Due.times(9, "if 1{") + "a=(1);" + Due.times(9, "}") + "}", 3, 57);
        DUE.reads("a=1;if 1{times x((1)){a[(x(a[(1)]))]=x(-(x(a[((1))])));}}", 16);
        DUE.faults(Due.times(10, "if 1{") + "if (1){}", 3, 53);
        DUE.faults("if " + Due.times(11, "(") + "1", 3, 13);
    }

    private static void notDeep() {
        DUE.reads("a=" + Due.times(20, "(1)+") + "1;" + Due.times(20, "if 1{}else{}"), 82);
        DUE.reads("macro f(p,q,r,s){}" + Due.times(12, "if x(1){}"), 36);
        DUE.reads(Due.macros(12, "(p){if 1{draw ((1));}}"), 48);
        DUE.reads("a=1;" + Due.times(12, "a[0]=(a[0]);"), 50);
    }

    private static void macroLikeTool() {
        for (String[] tools : new String[][] {Section1TokensTest.ONES, Section1TokensTest.TWOS, Section1TokensTest.THREES}) {
            for (String tool : tools) {
                DUE.faults("macro " + tool + "(){}", 4, 6);
                DUE.reads("macro " + tool + "2(){}", 0);
            }
        }
    }

    private static void macroLikeMacro() {
        DUE.faults("macro f(){}macro f(){}", 4, 17);
        DUE.faults("macro f(){}macro g(){}macro f(p){}", 4, 28);
        DUE.reads("macro f(){}macro ff(){}macro f1(){}", 0);
    }

    private static void paramTwice() {
        DUE.faults("macro f(p,p){}", 4, 10);
        DUE.faults("macro f(p,q,p){}", 4, 12);
        DUE.faults("macro f(p,q,r,r){}", 4, 14);
        DUE.reads("macro f(f){}macro g(f,g){}", 0);
        DUE.reads("macro f(p){}macro g(p){}", 0);
        DUE.reads("macro f(p){p=1;}", 2);
    }

    private static void untold() {
        DUE.faults("a=b;", 5, 2);
        DUE.faults("draw a;", 5, 5);
        DUE.faults("draw -a;", 5, 6);
        DUE.faults("draw 1+a;", 5, 7);
        DUE.faults("if a{}", 5, 3);
        DUE.faults("draw mid(1,a);", 5, 11);
        DUE.reads("if 0{a=1;}draw a;", 6);
        DUE.reads("if 0{a=1;}else{draw a;}", 6);
        DUE.faults("if 0{draw a;}else{a=1;}", 5, 10);
        DUE.faults("times 2{draw a;a=1;}", 5, 13);
    }

    private static void untoldInItsMacro() {
        DUE.faults("macro f(p){}draw p;", 5, 17);
        DUE.faults("macro f(){a=1;}draw a;", 5, 20);
        DUE.faults("macro f(){a=1;}macro g(){draw a;}", 5, 30);
        DUE.faults("macro f(p){}macro g(){draw p;}", 5, 27);
        DUE.faults("macro f(){draw a;}a=1;", 5, 15);
        DUE.reads("macro f(p){draw p;a=p;draw a;}", 6);
        DUE.faults("macro f(){}draw f;", 5, 16);
    }

    private static void behindItsExp() {
        DUE.faults("a=a;", 5, 2);
        DUE.faults("a=1+a;", 5, 4);
        DUE.faults("a=a[0];", 5, 2);
        DUE.reads("a=1;a=a;", 4);
        DUE.faults("macro f(){a=a;}", 5, 12);
    }

    private static void untoldOfPlace() {
        DUE.faults("a[0]=1;", 5, 0);
        DUE.faults("a[$", 5, 0);
        DUE.faults("draw a[0];", 5, 5);
        DUE.faults("a=row(1);a[b]=1;", 5, 11);
        DUE.faults("a=row(1);a[0]=b;", 5, 14);
        DUE.faults("macro f(){a[0]=1;}", 5, 10);
        DUE.reads("macro f(p){p[0]=1;}", 3);
    }

    private static void untoldCalls() {
        DUE.faults("a=f(1);", 5, 2);
        DUE.faults("macro f(){give f();}", 5, 15);
        DUE.faults("macro f(){give g();}macro g(){}", 5, 15);
        DUE.reads("macro f(){give 1;}macro g(){give f();}", 4);
        DUE.faults("draw (z());", 5, 6);
        DUE.faults("draw f(1;", 5, 5);
    }

    private static void nameWithBracket() {
        DUE.faults("a=1;b=a(1);", 5, 6);
        DUE.faults("a=a(1);", 5, 2);
        DUE.faults("a=1;b=a (1);", 5, 6);
        DUE.faults("macro f(p){give p(1);}", 5, 16);
        DUE.reads("macro f(){}f=f();draw f;", 4);
        DUE.faults("macro f(){}draw f[0];", 5, 16);
    }

    private static void arguments() {
        DUE.faults("a=x();", 6, 2);
        DUE.faults("a=x(1,2);", 6, 2);
        DUE.faults("a=1+mid(1);", 6, 4);
        DUE.faults("a=mid(1,2,3,4,5,6,7,8);", 6, 2);
        DUE.faults("macro f(){}a=f(1);", 6, 13);
        DUE.reads("macro f(){}a=f();", 2);
        DUE.faults("macro f(p){}a=f();", 6, 14);
        DUE.faults("macro f(p,q,r,s){}a=f(1,2,3);", 6, 20);
        DUE.reads("macro f(p,q,r,s){}a=f(1,2,3,4);", 6);
        DUE.faults("macro f(p,q,r,s){}a=f(1,2,3,4,5);", 6, 20);
    }

    private static void askedAtTheEnd() {
        DUE.faults("a=mid(1,b,2);", 5, 8);
        DUE.faults("a=mid(1,$);", 1, 8);
        DUE.faults("a=mid(1 2);", 2, 8);
        DUE.faults("a=mid(1;", 2, 7);
        DUE.faults("a=mid(1", 2, 7);
        DUE.faults("a=mid(1,2,3", 2, 11);
        DUE.faults("a=mid(1,x());", 6, 8);
        DUE.faults("a=mid(x());", 6, 6);
        DUE.faults("a=x(mid(1,2),mid(1));", 6, 13);
        DUE.faults("a=mid(1)$;", 6, 2);
        DUE.faults("a=mid(1) zz;", 6, 2);
        DUE.faults("a=mid(1,2,3)(;", 6, 2);
        DUE.faults(Due.times(124, "draw 1;") + "draw x(1);", 3, 875);
        DUE.faults(Due.times(124, "draw 1;") + "draw x();", 6, 873);
    }
}
