/** Promise 17: print, and that what is printed is read so again. */
public final class Promise17PrintTest {
    private static final Due DUE = new Due("Promise 17, print");

    public static void main(String[] args) {
        DUE.holds("an empty FIGURE", Promise17PrintTest::empty);
        DUE.holds("each deed on a line of its own", Promise17PrintTest::deeds);
        DUE.holds("macro f(p, q) {   macro f() {", Promise17PrintTest::macros);
        DUE.holds("times 3 {   if a {   } else {   }", Promise17PrintTest::blocks);
        DUE.holds("two blanks for each block that it lies in, up to ten", Promise17PrintTest::blanks);
        DUE.holds("NUMBERS without 0s ahead", Promise17PrintTest::numbers);
        DUE.holds("an else where one was told, also an empty one", Promise17PrintTest::elses);
        DUE.holds("signs between two with a blank on both sides, f(a, b), p[i], -a", Promise17PrintTest::signs);
        DUE.holds("( ) just where they are needed: not round a sum's left side", Promise17PrintTest::leftSides);
        DUE.holds("( ) just where they are needed: round a right side of the same rank", Promise17PrintTest::rightSides);
        DUE.holds("( ) just where they are needed: = and < on both sides", Promise17PrintTest::comparisons);
        DUE.holds("( ) just where they are needed: behind - of one", Promise17PrintTest::minus);
        DUE.holds("( ) just where they are needed: not round arguments, places, whole exps", Promise17PrintTest::wholeExps);
        DUE.holds("250 NODES in one exp", Promise17PrintTest::longExps);
        DUE.holds("THE OUT becomes the FIGURE, in place of what it was", Promise17PrintTest::inPlace);
        DUE.holds("How many bytes, also above 3000", Promise17PrintTest::howMany);
        DUE.holds("the longest print that a text can have", Promise17PrintTest::longest);
        DUE.holds("STATE: no FIGURE", Promise17PrintTest::noFigure);
        DUE.end();
    }

    /** A new object for each 300 bytes, as an object has 512 calls. */
    private static String printed(String text, int many) {
        StringBuilder got = new StringBuilder();
        for (int from = 0; from < many; from += 300) {
            FigureTexts x = Due.read(text);
            int length = x.print();
            for (int i = from; i < from + 300 && i < length; i++) {
                got.append((char) x.out(i));
            }
        }
        return got.toString();
    }

    /** The print is as due, and read back it is the same FIGURE, whose print is the same again. */
    private static void prints(String text, String due) {
        FigureTexts x = new FigureTexts();
        Due.feed(x, text);
        int nodes = x.read();
        DUE.is("whether " + text + " is read", nodes >= 0, true);
        DUE.is("print() of " + text, x.print(), due.length());
        DUE.is("count(8)", x.count(8), due.length());
        DUE.is("back() of it", x.back(), due.length());
        DUE.is("read() of it", x.read(), nodes);
        DUE.is("print() again of " + text, x.print(), due.length());
        DUE.is("what is printed of " + text, printed(text, due.length()), due);
        DUE.is("what is printed again of " + text, printed(due, due.length()), due);
    }

    private static void exp(String exp, String due) {
        prints("a=1;b=a;c=row(2);draw " + exp + ";", "a = 1;\nb = a;\nc = row(2);\ndraw " + due + ";\n");
    }

    private static void empty() {
        prints("", "");
        prints("  \n ", "");
    }

    private static void deeds() {
        prints("a=1;", "a = 1;\n");
        prints("a=row(1);a[0]=1;a[0]=a[0];", "a = row(1);\na[0] = 1;\na[0] = a[0];\n");
        prints("state 1;draw 2;", "state 1;\ndraw 2;\n");
        prints("\n\nstate   1\n;\ndraw\n2 ; \n", "state 1;\ndraw 2;\n");
        prints("a=row(2);a[1-1]=1<2;", "a = row(2);\na[1 - 1] = 1 < 2;\n");
        prints("a0=1;z9=a0;x0y9z=z9;", "a0 = 1;\nz9 = a0;\nx0y9z = z9;\n");
        prints("abcdefghij=1;draw abcdefghij;", "abcdefghij = 1;\ndraw abcdefghij;\n");
    }

    private static void macros() {
        prints("macro f(){}", "macro f() {\n}\n");
        prints("macro f(p){}", "macro f(p) {\n}\n");
        prints("macro f(p,q){give p;}", "macro f(p, q) {\n  give p;\n}\n");
        prints("macro f(p){give p;}macro g2(abcdefghij,q,r,s){times q{give r;}}draw f(g2(1,2,3,4));",
            "macro f(p) {\n  give p;\n}\nmacro g2(abcdefghij, q, r, s) {\n  times q {\n    give r;\n  }\n}\ndraw f(g2(1, 2, 3, 4));\n");
        prints(Due.macros(12, "(){}"), Due.macros(12, "() {\n}\n"));
        prints("macro f(){give 1;}draw f();", "macro f() {\n  give 1;\n}\ndraw f();\n");
    }

    private static void blocks() {
        prints("times 3{}", "times 3 {\n}\n");
        prints("if 1{}", "if 1 {\n}\n");
        prints("if 1{a=1;draw a;}else{draw 2;}draw 3;", "if 1 {\n  a = 1;\n  draw a;\n} else {\n  draw 2;\n}\ndraw 3;\n");
        prints("times 3{if 1{times 2{draw 1;}}else{if 0{}else{}}}",
            "times 3 {\n  if 1 {\n    times 2 {\n      draw 1;\n    }\n  } else {\n    if 0 {\n    } else {\n    }\n  }\n}\n");
        prints("if 1<2{}times(2){}", "if 1 < 2 {\n}\ntimes 2 {\n}\n");
    }

    private static void blanks() {
        StringBuilder due = new StringBuilder();
        for (int i = 0; i < 10; i++) {
            due.append("  ".repeat(i)).append("if 1 {\n");
        }
        due.append("  ".repeat(10)).append("draw 1;\n");
        for (int i = 9; i >= 0; i--) {
            due.append("  ".repeat(i)).append("}\n");
        }
        prints(Due.times(10, "if 1{") + "draw 1;" + Due.times(10, "}"), due.toString());
        prints("macro f(){if 1{give 1;}}", "macro f() {\n  if 1 {\n    give 1;\n  }\n}\n");
    }

    private static void numbers() {
        exp("007", "7");
        exp("0", "0");
        exp("000", "0");
        exp("000000000", "0");
        exp("000000001", "1");
        exp("100", "100");
        exp("000123456", "123456");
        exp("999999999", "999999999");
    }

    private static void elses() {
        prints("if 1{}else{}", "if 1 {\n} else {\n}\n");
        prints("if 1{draw 1;}else{}", "if 1 {\n  draw 1;\n} else {\n}\n");
        prints("if 1{}else{draw 1;}", "if 1 {\n} else {\n  draw 1;\n}\n");
        prints("if 1{draw 1;}draw 2;", "if 1 {\n  draw 1;\n}\ndraw 2;\n");
        prints("if 1{if 2{}}else{}", "if 1 {\n  if 2 {\n  }\n} else {\n}\n");
        prints("if 1{if 2{}else{}}", "if 1 {\n  if 2 {\n  } else {\n  }\n}\n");
    }

    private static void signs() {
        exp("a+b", "a + b");
        exp("a-b*a/b=a", "a - b * a / b = a");
        exp("a<b", "a < b");
        exp("-a", "-a");
        exp("- - a", "--a");
        exp("a--b", "a - -b");
        exp("-a*-b", "-a * -b");
        exp("c[a+1]", "c[a + 1]");
        exp("c[c[0]]", "c[c[0]]");
        exp("mid(a,b)", "mid(a, b)");
        exp("scale(a,-b,a=b)", "scale(a, -b, a = b)");
        exp("-x(a)", "-x(a)");
        exp("-c[0]", "-c[0]");
        exp("x(c[0])+c[1]", "x(c[0]) + c[1]");
    }

    private static void leftSides() {
        exp("(a+b)+a", "a + b + a");
        exp("(a-b)-a", "a - b - a");
        exp("(a*b)/a", "a * b / a");
        exp("(a*b)+(a/b)", "a * b + a / b");
        exp("a-(b*a)", "a - b * a");
        exp("(a+b)*a", "(a + b) * a");
        exp("(a-b)/a", "(a - b) / a");
        exp("(-a)*b", "-a * b");
        exp("(-a)+b", "-a + b");
        exp("((((a-b)-a)-b)-a)", "a - b - a - b - a");
    }

    private static void rightSides() {
        exp("a+(b+a)", "a + (b + a)");
        exp("a+(b-a)", "a + (b - a)");
        exp("a-(b-a)", "a - (b - a)");
        exp("a-(b+a)", "a - (b + a)");
        exp("a*(b*a)", "a * (b * a)");
        exp("a*(b/a)", "a * (b / a)");
        exp("a/(b*a)", "a / (b * a)");
        exp("a/(b/a)", "a / (b / a)");
        exp("a*(a+b)", "a * (a + b)");
        exp("a/(a-b)", "a / (a - b)");
        exp("a*(-b)", "a * -b");
        exp("a+(-b)", "a + -b");
        exp("a-(b-(a-(b-a)))", "a - (b - (a - (b - a)))");
    }

    private static void comparisons() {
        exp("(a=b)=a", "(a = b) = a");
        exp("a=(b=a)", "a = (b = a)");
        exp("a<(b<a)", "a < (b < a)");
        exp("(a<b)<a", "(a < b) < a");
        exp("(a<b)=(b<a)", "(a < b) = (b < a)");
        exp("(a+b)=(b-a)", "a + b = b - a");
        exp("(a*b)<(b/a)", "a * b < b / a");
        exp("(a=b)+1", "(a = b) + 1");
        exp("1+(a=b)", "1 + (a = b)");
        exp("(a=b)*1", "(a = b) * 1");
        exp("1/(a<b)", "1 / (a < b)");
        exp("a=(-b)", "a = -b");
        prints("a=1=2;", "a = 1 = 2;\n");
        prints("a=(1=2);", "a = 1 = 2;\n");
    }

    private static void minus() {
        exp("-(a)", "-a");
        exp("-(-a)", "--a");
        exp("-(a+b)", "-(a + b)");
        exp("-(a*b)", "-(a * b)");
        exp("-(a=b)", "-(a = b)");
        exp("-(5)", "-5");
        exp("-(c[0])", "-c[0]");
        exp("-(x(a))", "-x(a)");
        exp("-(-(a+b))", "--(a + b)");
    }

    private static void wholeExps() {
        exp("(a)", "a");
        exp("((a+b))", "a + b");
        exp("(a=b)", "a = b");
        exp("(c[0])*(x(a))", "c[0] * x(a)");
        exp("x((a=b))", "x(a = b)");
        exp("c[(a=b)]", "c[a = b]");
        exp("mid((a),(b+(a*b)))", "mid(a, b + a * b)");
        prints("if (1){times (2){}}", "if 1 {\n  times 2 {\n  }\n}\n");
        prints("if (1=2){state (1<2);}", "if 1 = 2 {\n  state 1 < 2;\n}\n");
        prints("a=row(1);a[(0)]=(1);", "a = row(1);\na[0] = 1;\n");
    }

    private static void longExps() {
        prints("a=1" + Due.times(124, "+1") + ";", "a = 1" + Due.times(124, " + 1") + ";\n");
        prints("a=" + Due.times(248, "-") + "1;", "a = " + Due.times(248, "-") + "1;\n");
        prints("a=" + Due.times(10, "1-(") + "1" + Due.times(10, ")") + ";", "a = " + Due.times(9, "1 - (") + "1 - 1" + Due.times(9, ")") + ";\n");
        prints("a=" + Due.times(10, "x(") + "1" + Due.times(10, ")") + ";", "a = " + Due.times(10, "x(") + "1" + Due.times(10, ")") + ";\n");
    }

    private static void inPlace() {
        FigureTexts x = Due.run("draw point(1,2);draw 7;");
        x.print();
        x.write(1);
        DUE.is("THE OUT", Due.out(x), "7");
        DUE.is("print()", x.print(), 26);
        DUE.is("THE OUT", Due.out(x), "draw point(1, 2);\ndraw 7;\n");
        Due.feed(x, "draw ;");
        x.read();
        DUE.is("print() of the old FIGURE behind a FAULT", Due.printed(x), "draw point(1, 2);\ndraw 7;\n");
    }

    private static void howMany() {
        String begin = Due.times(10, "if 1{");
        String end = Due.times(10, "}");
        DUE.is("3000 bytes", Due.read(begin + Due.times(95, "draw 1;") + "draw 12345678;draw 12345678;" + end).print(), 3000);
        DUE.is("3001 bytes", Due.read(begin + Due.times(95, "draw 1;") + "draw 12345678;draw 123456789;" + end).print(), 3001);
        DUE.is("250 NODES", Due.read(begin + Due.times(115, "draw 1;") + end).print(), 270 + 115 * 28);
    }

    /** Ten blocks deep, each deed three lines, the words as long as THE TAPE has room for. */
    private static void longest() {
        String deed = "if aaaaaaa{}else{}";
        String text = "aaaaaaa=1;" + Due.times(9, "if 1{") + Due.times(115, deed) + Due.times(9, "}");
        FigureTexts x = new FigureTexts();
        Due.feed(x, text);
        DUE.is("read()", x.read(), 250);
        int inner = 3 * 18 + "if aaaaaaa {\n".length() + "} else {\n".length() + "}\n".length();
        int outer = 9 * ("if 1 {\n".length() + "}\n".length()) + 2 * 2 * 36;
        DUE.is("print()", x.print(), "aaaaaaa = 1;\n".length() + outer + 115 * inner);
        DUE.is("its last byte", x.out(x.count(8) - 1), 10);
        DUE.is("the one ahead", x.out(x.count(8) - 2), '}');
        DUE.is("back()", x.back(), Due.STATE);
    }

    private static void noFigure() {
        FigureTexts x = new FigureTexts();
        DUE.refuses(x, "print()", x::print, Due.STATE);
        Due.feed(x, "draw");
        x.read();
        DUE.refuses(x, "print() behind a FAULT", x::print, Due.STATE);
    }
}
