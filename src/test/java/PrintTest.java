/** Promise 17 (print), and that what is printed is read back (4, 20). */
public final class PrintTest {
    private static final Due DUE = new Due("PrintTest");

    public static void main(String[] args) {
        deeds();
        exps();
        brackets();
        longChains();
        withoutFigure();
        DUE.end();
    }

    /** The print is as due, and read back it is the same figure, whose print is the same again. */
    private static void prints(String text, String due) {
        FigureTexts x = new FigureTexts();
        Due.feed(x, text);
        int nodes = x.read();
        DUE.is("print() of " + text, x.print(), due.length());
        DUE.is("what is printed of " + text, Due.out(x), due);
        DUE.is("back() of it", x.back(), due.length());
        DUE.is("read() of it", x.read(), nodes);
        DUE.is("what is printed again of " + text, Due.printed(x), due);
    }

    private static void exp(String exp, String due) {
        prints("a=1;b=a;c=row(2);draw " + exp + ";", "a = 1;\nb = a;\nc = row(2);\ndraw " + due + ";\n");
    }

    private static void deeds() {
        prints("", "");
        prints("  \n ", "");
        prints("a=1;", "a = 1;\n");
        prints("a=row(1);a[0]=1;a[0]=a[0];", "a = row(1);\na[0] = 1;\na[0] = a[0];\n");
        prints("state 1;draw 2;", "state 1;\ndraw 2;\n");
        prints("if 1{}", "if 1 {\n}\n");
        prints("if 1{}else{}", "if 1 {\n} else {\n}\n");
        prints("if 1{a=1;draw a;}else{draw 2;}draw 3;", "if 1 {\n  a = 1;\n  draw a;\n} else {\n  draw 2;\n}\ndraw 3;\n");
        prints("times 3{}", "times 3 {\n}\n");
        prints("times 3{if 1{times 2{draw 1;}}else{if 0{}else{}}}",
            "times 3 {\n  if 1 {\n    times 2 {\n      draw 1;\n    }\n  } else {\n    if 0 {\n    } else {\n    }\n  }\n}\n");
        prints("macro f(){}", "macro f() {\n}\n");
        prints("macro f(p){give p;}macro g2(abcdefghij,q,r,s){times q{give r;}}draw f(g2(1,2,3,4));",
            "macro f(p) {\n  give p;\n}\nmacro g2(abcdefghij, q, r, s) {\n  times q {\n    give r;\n  }\n}\ndraw f(g2(1, 2, 3, 4));\n");
    }

    private static void exps() {
        exp("007", "7");
        exp("000", "0");
        exp("100", "100");
        exp("000123456", "123456");
        exp("999999999", "999999999");
        exp("a+b", "a + b");
        exp("a-b*a/b=a", "a - b * a / b = a");
        exp("a<b", "a < b");
        exp("-a", "-a");
        exp("- - a", "--a");
        exp("a--b", "a - -b");
        exp("-a*-b", "-a * -b");
        exp("c[a+1]", "c[a + 1]");
        exp("c[c[0]]", "c[c[0]]");
        exp("mid(a,b)", "mid(a, b)");
        exp("scale(a,-b,a=b)", "scale(a, -b, a = b)");
        exp("-x(a)", "-x(a)");
        exp("x(c[0])+c[1]", "x(c[0]) + c[1]");
    }

    private static void brackets() {
        exp("(a)", "a");
        exp("((a+b))", "a + b");
        exp("(a+b)+a", "a + b + a");
        exp("a+(b+a)", "a + (b + a)");
        exp("a+(b-a)", "a + (b - a)");
        exp("(a-b)-a", "a - b - a");
        exp("a-(b*a)", "a - b * a");
        exp("(a*b)/a", "a * b / a");
        exp("a*(b/a)", "a * (b / a)");
        exp("a/(b*a)", "a / (b * a)");
        exp("(a+b)*a", "(a + b) * a");
        exp("a*(a+b)", "a * (a + b)");
        exp("(a*b)+(a/b)", "a * b + a / b");
        exp("(a=b)=a", "(a = b) = a");
        exp("a=(b=a)", "a = (b = a)");
        exp("a<(b<a)", "a < (b < a)");
        exp("(a<b)=(b<a)", "(a < b) = (b < a)");
        exp("(a+b)=(b-a)", "a + b = b - a");
        exp("(a=b)+1", "(a = b) + 1");
        exp("1+(a=b)", "1 + (a = b)");
        exp("(a=b)*1", "(a = b) * 1");
        exp("-(a)", "-a");
        exp("-(-a)", "--a");
        exp("-(a+b)", "-(a + b)");
        exp("-(a*b)", "-(a * b)");
        exp("-(a=b)", "-(a = b)");
        exp("(-a)*b", "-a * b");
        exp("(-a)+b", "-a + b");
        exp("a*(-b)", "a * -b");
        exp("a+(-b)", "a + -b");
        exp("a=(-b)", "a = -b");
        exp("(c[0])*(x(a))", "c[0] * x(a)");
        exp("x((a=b))", "x(a = b)");
        exp("c[(a=b)]", "c[a = b]");
        exp("mid((a),(b+(a*b)))", "mid(a, b + a * b)");
        exp("a-(b-(a-(b-a)))", "a - (b - (a - (b - a)))");
        exp("((((a-b)-a)-b)-a)", "a - b - a - b - a");
        prints("a=1=2;", "a = 1 = 2;\n");
        prints("if (1){times (2){}}", "if 1 {\n  times 2 {\n  }\n}\n");
    }

    private static void longChains() {
        prints("a=1" + Due.times(123, "+1") + ";", "a = 1" + Due.times(123, " + 1") + ";\n");
        prints("a=" + Due.times(248, "-") + "1;", "a = " + Due.times(248, "-") + "1;\n");
        prints("a=" + Due.times(10, "1-(") + "1" + Due.times(10, ")") + ";", "a = " + Due.times(9, "1 - (") + "1 - 1" + Due.times(9, ")") + ";\n");
    }

    private static void withoutFigure() {
        FigureTexts x = new FigureTexts();
        DUE.is("print() without a figure", x.print(), FigureTexts.STATE);
        Due.feed(x, "draw 1;");
        x.read();
        x.run();
        x.write(0);
        Due.feed(x, "draw ;");
        x.read();
        DUE.is("THE OUT stays", Due.out(x), "1");
        DUE.is("print() of the old figure", Due.printed(x), "draw 1;\n");
    }
}
