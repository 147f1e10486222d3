/** Section 1 of the document, TEXTS: TOKENS, the grammar, NAMES, TOOLS, NODES. */
public final class Section1TokensTest {
    private static final Due DUE = new Due("Section 1, TOKENS and grammar");
    static final String[] ONES = {"x", "y", "slope", "centre", "square", "half", "size", "none", "kind", "row", "points", "lines", "numbers"};
    static final String[] TWOS = {"point", "free", "line", "seg", "mid", "foot", "mirror", "turn", "par", "perp", "meet", "circle", "round",
        "power", "polar", "invert", "dist", "end", "on", "is", "flat", "right"};
    static final String[] THREES = {"scale", "ring", "area", "cut"};
    private static final String[] KEPT = {"macro", "if", "else", "times", "state", "draw", "give"};

    public static void main(String[] args) {
        DUE.holds("TOKENS, as long as can be", Section1TokensTest::asLongAsCanBe);
        DUE.holds("blanks (10, 32) between them or none", Section1TokensTest::blanks);
        DUE.holds("WORDS (a letter a to z, then such letters and digits), 1 to 10 bytes", Section1TokensTest::words);
        DUE.holds("NUMBERS, 1 to 9 digits", Section1TokensTest::numbers);
        DUE.holds("A row of letters and digits is one TOKEN, or none", Section1TokensTest::rows);
        DUE.holds("SIGNS ; , = < + - * / ( ) [ ] { }, and each byte that is none", Section1TokensTest::allBytes);
        DUE.holds("figure = {macro} {deed}", Section1TokensTest::figures);
        DUE.holds("macro = 'macro' NAME '(' [NAME {',' NAME}] ')' block", Section1TokensTest::macros);
        DUE.holds("block = '{' {deed} '}'", Section1TokensTest::blocks);
        DUE.holds("deed = NAME '=' exp ';' | NAME '[' exp ']' '=' exp ';'", Section1TokensTest::tellings);
        DUE.holds("deed = 'if' exp block ['else' block] | 'times' exp block", Section1TokensTest::branches);
        DUE.holds("deed = 'state' exp ';' | 'draw' exp ';'", Section1TokensTest::plainDeeds);
        DUE.holds("'give' exp ';' (in macros alone)", Section1TokensTest::gives);
        DUE.holds("exp = sum [('=' | '<') sum], once", Section1TokensTest::comparisons);
        DUE.holds("sum = term {('+' | '-') term}, term = one {('*' | '/') one}", Section1TokensTest::sums);
        DUE.holds("one = '-' one | NUMBER | '(' exp ')' | NAME ['[' exp ']'] | CALL", Section1TokensTest::ones);
        DUE.holds("CALL = (TOOL | macro's NAME) '(' [exp {',' exp}] ')'", Section1TokensTest::calls);
        DUE.holds("NAMES are WORDS that are none of macro, if, else, times, state, draw, give", Section1TokensTest::keptWords);
        DUE.holds("TOOLS are no kept WORDS: they are NAMES, too", Section1TokensTest::toolNames);
        DUE.holds("TOOLS, with how many arguments", Section1TokensTest::tools);
        DUE.holds("NODES: each deed, each NUMBER, NAME, NAME [ ] and CALL in an exp, each - of one, each sign between two", Section1TokensTest::nodes);
        DUE.end();
    }

    private static void asLongAsCanBe() {
        DUE.reads("drawa=1;", 2);
        DUE.reads("if1=1;draw if1;", 4);
        DUE.reads("a=12;", 2);
        DUE.faults("a=1 2;", 2, 4);
        DUE.faults("a b=1;", 2, 2);
        DUE.faults("times2{}", 2, 6);
        DUE.reads("a=--1;", 4);
        DUE.faults("a=1<=2;", 2, 4);
        DUE.faults("a==1;", 2, 2);
    }

    private static void blanks() {
        DUE.reads("a=1;b=a;", 4);
        DUE.reads("\n a\n\n=  1\n;b = a \n;\n ", 4);
        DUE.reads("a=row(1);a [ 0 ] = 1 ;", 6);
        DUE.reads("draw x ( 1 ) ;", 3);
        DUE.reads("draw -\n1;", 3);
        for (int other : new int[] {0, 9, 11, 12, 13, 31, 33, 127, 160, 255}) {
            DUE.faults("a" + (char) other + "=1;", 1, 1);
        }
    }

    private static void words() {
        DUE.reads("a=1;", 2);
        DUE.reads("z=1;", 2);
        DUE.reads("abcdefghij=1;draw abcdefghij;", 4);
        DUE.reads("a123456789=1;", 2);
        DUE.faults("abcdefghijk=1;", 1, 0);
        DUE.faults("a1234567890=1;", 1, 0);
        DUE.faults("draw abcdefghijk;", 1, 5);
        DUE.faults("abcdefghij=1;draw abcdefghi;", 5, 18);
        DUE.faults("abcdefghi=1;draw abcdefghij;", 5, 17);
        DUE.reads("a1b2=1;draw a1b2;", 4);
        DUE.does("a=1;a0=2;a9=3;a09=4;az=5;aa=6;a0a=7;draw a;draw a0;draw a9;draw a09;draw az;draw aa;draw a0a;", "1 2 3 4 5 6 7", "", "");
        DUE.does("macro f0(){give 1;}macro f9(){give 2;}macro fz(){give 3;}draw f0();draw f9();draw fz();", "1 2 3", "", "");
        DUE.faults("a0=1;draw a;", 5, 10);
        DUE.faults("a9=1;draw a;", 5, 10);
        DUE.faults("A=1;", 1, 0);
        DUE.faults("aB=1;", 1, 1);
        DUE.faults("a_b=1;", 1, 1);
        DUE.faults("macro abcdefghijk(){}", 1, 6);
        DUE.reads("macro abcdefghij(){}", 0);
        DUE.faults(Due.times(3000, "a"), 1, 0);
    }

    private static void numbers() {
        DUE.reads("a=0;", 2);
        DUE.reads("a=123456789;", 2);
        DUE.reads("a=999999999;", 2);
        DUE.reads("a=000000000;", 2);
        DUE.faults("a=1234567890;", 1, 2);
        DUE.faults("a=0000000001;", 1, 2);
        DUE.faults("a=" + Due.times(200, "9") + ";", 1, 2);
        DUE.faults("a=1.5;", 1, 3);
        DUE.is("a NUMBER of 9 digits", Due.drawn(Due.run("draw 987654321;draw 000000042;")), "987654321 42");
    }

    private static void rows() {
        DUE.faults("a=1b;", 1, 2);
        DUE.faults("1a=1;", 1, 0);
        DUE.faults("a=12345678901b;", 1, 2);
        DUE.faults("a=0x1;", 1, 2);
        DUE.faults("1=1;", 2, 0);
        DUE.faults("times 2draw 1;", 1, 6);
    }

    private static void allBytes() {
        String signs = ";,=<+-*/()[]{}";
        for (int b = 0; b < 256; b++) {
            boolean letter = b >= 'a' && b <= 'z';
            boolean digit = b >= '0' && b <= '9';
            if (b == 10 || b == 32) {
                DUE.reads(String.valueOf((char) b), 0);
            } else if (letter) {
                DUE.faults(String.valueOf((char) b), 2, 1);
            } else {
                DUE.faults(String.valueOf((char) b), digit || signs.indexOf((char) b) >= 0 ? 2 : 1, 0);
            }
        }
        DUE.reads("a=row(1);a[0]=-1+2*3/4-5<6;if a[0]=1{}b=mid(1,2);", 26);
    }

    private static void figures() {
        DUE.reads("", 0);
        DUE.reads(" \n ", 0);
        DUE.reads("macro f(){}", 0);
        DUE.reads("macro f(){}macro g(){}draw 1;draw 2;", 4);
        DUE.faults("a=1; macro f(){}", 2, 5);
        DUE.faults(";", 2, 0);
        DUE.faults("}", 2, 0);
        DUE.faults("draw 1;}", 2, 7);
        DUE.faults("{}", 2, 0);
        DUE.faults("{draw 1;}", 2, 0);
        DUE.faults("1;", 2, 0);
        DUE.faults("-1;", 2, 0);
    }

    private static void macros() {
        DUE.reads("macro f(p){}", 0);
        DUE.reads("macro f(p,q){}", 0);
        DUE.faults("macro", 2, 5);
        DUE.faults("macro 1(){}", 2, 6);
        DUE.faults("macro (){}", 2, 6);
        DUE.faults("macro{}", 2, 5);
        DUE.faults("macro 1{}", 2, 6);
        DUE.faults("macro f{}", 2, 7);
        DUE.faults("macro f(1){}", 2, 8);
        DUE.faults("macro f(,){}", 2, 8);
        DUE.faults("macro f(p,){}", 2, 10);
        DUE.faults("macro f(p q){}", 2, 10);
        DUE.faults("macro f(p", 2, 9);
        DUE.faults("macro f(p;){}", 2, 9);
        DUE.faults("macro f()", 2, 9);
        DUE.faults("macro f() draw 1;", 2, 10);
        DUE.faults("macro f();", 2, 9);
        DUE.faults("macro f(){macro g(){}}", 2, 10);
        DUE.faults("macro f(){};", 2, 11);
    }

    private static void blocks() {
        DUE.reads("if 1{}", 2);
        DUE.reads("if 1{draw 1;}", 4);
        DUE.reads("if 1{draw 1;draw 2;}", 6);
        DUE.faults("if 1{", 2, 5);
        DUE.faults("if 1{draw 1;", 2, 12);
        DUE.faults("if 1{draw 1}", 2, 11);
        DUE.faults("if 1{;}", 2, 5);
        DUE.faults("if 1{}}", 2, 6);
        DUE.faults("if 1{)", 2, 5);
        DUE.faults("macro f(){", 2, 10);
    }

    private static void tellings() {
        DUE.reads("a=row(1);a[0]=a;", 6);
        DUE.faults("a", 2, 1);
        DUE.faults("a;", 2, 1);
        DUE.faults("a 1;", 2, 2);
        DUE.faults("a=;", 2, 2);
        DUE.faults("a=1", 2, 3);
        DUE.faults("a=1}", 2, 3);
        DUE.faults("=1;", 2, 0);
        DUE.faults("a<1;", 2, 1);
        DUE.faults("point(1,2);", 2, 5);
        DUE.faults("a=row(1);a[0 1]=1;", 2, 13);
        DUE.faults("a=row(1);a[0=1;", 2, 14);
        DUE.faults("a=row(1);a[0] 1;", 2, 14);
        DUE.faults("a=row(1);a[]=1;", 2, 11);
        DUE.faults("a=row(1);a[0];", 2, 13);
        DUE.faults("a=row(1);a[0][0]=1;", 2, 13);
        DUE.faults("a=row(1);a[0)=1;", 2, 12);
        DUE.reads("a=row(1);a[0=1]=1;", 8);
    }

    private static void branches() {
        DUE.reads("if 1{}else{}", 2);
        DUE.reads("if 1{}draw 1;", 4);
        DUE.reads("times 1{}", 2);
        DUE.faults("if{}", 2, 2);
        DUE.faults("if 1 draw 1;", 2, 5);
        DUE.faults("if 1;", 2, 4);
        DUE.faults("else{}", 2, 0);
        DUE.faults("if 1{}else draw 1;", 2, 11);
        DUE.faults("if 1{}else if 1{}", 2, 11);
        DUE.faults("if 1{}else{}else{}", 2, 12);
        DUE.faults("if 1{}draw 1;else{}", 2, 13);
        DUE.faults("times{}", 2, 5);
        DUE.faults("times 2{}else{}", 2, 9);
        DUE.faults("times 2", 2, 7);
    }

    private static void plainDeeds() {
        DUE.reads("state 1;draw 1;", 4);
        DUE.faults("state;", 2, 5);
        DUE.faults("draw;", 2, 4);
        DUE.faults("draw", 2, 4);
        DUE.faults("draw 1", 2, 6);
        DUE.faults("draw 1,2;", 2, 6);
        DUE.faults("draw=1;", 2, 4);
        DUE.faults("state{}", 2, 5);
    }

    private static void gives() {
        DUE.reads("macro f(){give 1;}", 2);
        DUE.reads("macro f(){give 1;give 2;}", 4);
        DUE.reads("macro f(){if 1{give 1;}else{times 2{give 2;}}}", 8);
        DUE.faults("give 1;", 2, 0);
        DUE.faults("if 1{give 1;}", 2, 5);
        DUE.faults("macro f(){}give 1;", 2, 11);
        DUE.faults("macro f(){give;}", 2, 14);
    }

    private static void comparisons() {
        DUE.reads("a=1=2;", 4);
        DUE.reads("a=1<2;", 4);
        DUE.reads("a=(1<2)=3;", 6);
        DUE.faults("a=1=2=3;", 2, 5);
        DUE.faults("a=1<2<3;", 2, 5);
        DUE.faults("a=1<2=3;", 2, 5);
        DUE.faults("a=<1;", 2, 2);
        DUE.faults("a=1<;", 2, 4);
    }

    private static void sums() {
        DUE.reads("a=1+2-3*4/5;", 10);
        DUE.faults("a=+1;", 2, 2);
        DUE.faults("a=1+;", 2, 4);
        DUE.faults("a=1+*2;", 2, 4);
        DUE.faults("a=*1;", 2, 2);
        DUE.faults("a=1**2;", 2, 4);
        DUE.faults("a=1/;", 2, 4);
        DUE.reads("a=1*-2;", 5);
        DUE.reads("a=1--2;", 5);
    }

    private static void ones() {
        DUE.reads("a=-(1);", 3);
        DUE.reads("a=1;b=-a[-1];", 7);
        DUE.faults("a=();", 2, 3);
        DUE.faults("a=(1;", 2, 4);
        DUE.faults("a=1);", 2, 3);
        DUE.faults("a=(1,2);", 2, 4);
        DUE.faults("a=-;", 2, 3);
        DUE.faults("a=1[0];", 2, 3);
        DUE.faults("a=1;b=a[0][0];", 2, 10);
        DUE.faults("a=1;b=a[];", 2, 8);
        DUE.faults("a=1;b=a[0;", 2, 9);
        DUE.faults("a=1;b=(a)[0];", 2, 9);
        DUE.faults("a=x(1)[0];", 2, 6);
        DUE.faults("a={1};", 2, 2);
    }

    private static void calls() {
        DUE.reads("a=mid(1,2);", 4);
        DUE.reads("macro f(){}a=f();", 2);
        DUE.reads("macro f(p){}a=f(f(1));", 4);
        DUE.faults("a=mid(,1);", 2, 6);
        DUE.faults("a=mid(1,);", 2, 8);
        DUE.faults("a=mid(1 2);", 2, 8);
        DUE.faults("a=mid(1,2;", 2, 9);
        DUE.faults("a=mid(1,2", 2, 9);
        DUE.faults("a=mid(1,2];", 2, 9);
        DUE.faults("a=1(2);", 2, 3);
        DUE.faults("a=x(1)(2);", 2, 6);
    }

    private static void keptWords() {
        for (String word : KEPT) {
            DUE.faults("a=" + word + ";", 2, 2);
            DUE.faults("a=1+" + word + "(1);", 2, 4);
            DUE.faults("macro " + word + "(){}", 2, 6);
            DUE.faults("macro f(" + word + "){}", 2, 8);
            DUE.reads(word + "s=1;draw " + word + "s;", 4);
            DUE.reads("my" + word + "=1;", 2);
        }
        DUE.faults("else=1;", 2, 0);
        DUE.faults("macro f(){else=1;}", 2, 10);
    }

    private static void toolNames() {
        for (String[] tools : new String[][] {ONES, TWOS, THREES}) {
            for (String tool : tools) {
                DUE.reads(tool + "=1;draw " + tool + ";draw " + tool + "[0];", 7);
                DUE.reads("macro f(" + tool + "){give " + tool + ";}", 2);
                DUE.faults("draw " + tool + ";", 5, 5);
            }
        }
        DUE.does("x=3;row=x;draw x;draw x(point(row,1));", "3 3", "", "");
    }

    private static void tools() {
        for (String tool : ONES) {
            DUE.faults("a=" + tool + "();", 6, 2);
            DUE.reads("a=" + tool + "(1);", 3);
            DUE.faults("a=" + tool + "(1,1);", 6, 2);
        }
        for (String tool : TWOS) {
            DUE.faults("a=" + tool + "(1);", 6, 2);
            DUE.reads("a=" + tool + "(1,1);", 4);
            DUE.faults("a=" + tool + "(1,1,1);", 6, 2);
        }
        for (String tool : THREES) {
            DUE.faults("a=" + tool + "(1,1);", 6, 2);
            DUE.reads("a=" + tool + "(1,1,1);", 5);
            DUE.faults("a=" + tool + "(1,1,1,1);", 6, 2);
        }
    }

    private static void nodes() {
        DUE.reads("a=1;", 2);
        DUE.reads("a=1;b=a;", 4);
        DUE.reads("a=1;b=a[0];", 5);
        DUE.reads("a=1;a[0]=1;", 5);
        DUE.reads("draw (((1)));", 2);
        DUE.reads("draw ---1;", 5);
        DUE.reads("draw 1+2;", 4);
        DUE.reads("draw 1=2;", 4);
        DUE.reads("draw x(1);", 3);
        DUE.reads("macro f(p,q){}draw f(1,2);", 4);
        DUE.reads("macro f(p){give p;}", 2);
        DUE.reads("if 1{}else{}", 2);
        DUE.reads("times 1{state 1;}", 4);
    }
}
