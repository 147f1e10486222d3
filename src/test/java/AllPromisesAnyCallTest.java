/** All promises, by drawn texts and numbers: no call throws but as told, refused calls change nothing, each print is read so again. */
public final class AllPromisesAnyCallTest {
    private static final Due DUE = new Due("All promises, any call");
    private static final String[] PIECES = {"macro ", "if ", "else ", "times ", "state ", "draw ", "give ", "a", "b", "c", "f", "p", "q",
        "0", "1", "2", "3", "999999999", ";", ";", ";", ",", "=", "=", "<", "+", "-", "*", "/", "(", ")", "[", "]", "{", "}",
        "x(", "mid(", "point(", "line(", "seg(", "row(", "free(", "ring(", "cut(", "a=", "b=", "draw a;", "a=free(1,2);", "b=row(3);",
        "b[1]=a;", "draw b[1];", "f(", "macro f(p){give p;}", "macro g(){", "times 3{", "if a{", "}else{", "\n", " ", "$", "state 1;",
        "draw 1/0;", "times 99{a=free(1,1);}", "state is(a,a);", "c=line(a,point(3,4));", "draw foot(a,c);", "draw meet(c,c);"};
    private static final String[] DEEDS = {"draw a;", "draw b;", "state x(a);", "c=line(a,b);", "draw c;", "draw foot(b,c);", "w=row(2);w[1]=a;draw w[1];",
        "times 3{draw -(1-(2-x(a)));}", "if x(a)<y(b){draw 1;}else{state (1=2)=0;}", "d=circle(a,b);draw cut(c,d,1);", "draw 1/(x(a)-1)*(2/3);",
        "draw ring(a,b,point(7,-1/3));", "draw f(a,b);", "state on(b,c);", "times 2{if 1/0{}else{}}", "draw --x(b)+-1;"};
    private static final int[] EDGES = {Integer.MIN_VALUE, Integer.MAX_VALUE, -1, 0, 1, 2, 3, 5, 11, 12, 19, 20, 21, 40, 250, 2999, 3000,
        1000000000, 1000000001, -1000000000, 0x61616161, 0x20202020};

    private long seed;

    private AllPromisesAnyCallTest(long seed) {
        this.seed = seed;
    }

    public static void main(String[] args) {
        DUE.holds("no call throws but as told; refused calls change nothing", () -> {
            for (int i = 1; i <= 1500; i++) {
                new AllPromisesAnyCallTest(i * 7919L).anyCalls();
            }
        });
        DUE.holds("what is printed is read so again, runs so again", () -> {
            for (int i = 1; i <= 300; i++) {
                new AllPromisesAnyCallTest(i * 104729L).printedAgain();
            }
        });
        DUE.end();
    }

    private int draw(int below) {
        seed = seed * 6364136223846793005L + 1442695040888963407L;
        return (int) ((seed >>> 33) % below);
    }

    private int edge() {
        return EDGES[draw(EDGES.length)];
    }

    private String text(String[] pieces, int most) {
        StringBuilder text = new StringBuilder();
        int many = draw(most);
        for (int i = 0; i < many; i++) {
            text.append(pieces[draw(pieces.length)]);
        }
        return text.toString();
    }

    private void anyCalls() {
        FigureTexts x = new FigureTexts();
        for (int i = 0; i < 3; i++) {
            x.cut(0);
            Due.feed(x, i % 3 == 0 ? "a=free(1,2);b=row(3);" + text(PIECES, 30) : "a=free(1,2);draw a;state x(a);" + text(PIECES, 30) + ";");
            if (x.read() < 0 && i % 2 == 0) {
                Due.feed(x, "a=free(1,2);c=free(x(a),1/0);draw a;state x(a)-1;draw line(a,point(0,0));");
                x.read();
            }
            x.run();
            for (int j = 0; j < 3; j++) {
                call(x, draw(22), edge(), edge(), edge(), edge());
            }
        }
    }

    private static boolean mayThrow(int which) {
        return which >= 9 && which <= 12 || which >= 14 && which <= 16;
    }

    private static void call(FigureTexts x, int which, int a, int b, int c, int d) {
        String name = "call " + which + " (" + a + ", " + b + ", " + c + ", " + d + ")";
        String before = Due.seen(x);
        try {
            long answer = answer(x, which, a, b, c, d);
            if (answer <= FigureTexts.UNKNOWN && answer >= FigureTexts.SPENT) {
                DUE.is("what is seen behind a refused " + name, Due.seen(x), before);
            }
        } catch (RuntimeException thrown) {
            DUE.is("what " + name + " throws", thrown.getClass().getName(), IndexOutOfBoundsException.class.getName());
            DUE.is("whether " + name + " may throw", mayThrow(which), true);
            DUE.is("what is seen behind " + name, Due.seen(x), before);
        }
    }

    private static long answer(FigureTexts x, int which, int a, int b, int c, int d) {
        switch (which) {
            case 0: return x.feed(a, b, c, d, a);
            case 1: return x.cut(a);
            case 2: return x.read();
            case 3: return x.place();
            case 4: return x.about(a);
            case 5: return x.move(a, b, c, d);
            case 6: return x.loose(a);
            case 7: return x.run();
            case 8: return x.count(a);
            case 9: return x.kind(a);
            case 10: return x.number(a, b, c);
            case 11: return x.leans(a);
            case 12: return x.stated(a);
            case 13: return x.fall(a, b);
            case 14: return x.same(a, b) ? 1 : 0;
            case 15: return x.write(a);
            case 16: return x.out(a);
            case 17: return x.print();
            case 18: return x.back();
            case 19: return x.sweep(a % 3, b, c, d, a);
            case 20: return x.swept(a);
            default: return x.tried(a, b, c);
        }
    }

    /** All but the bytes of FALLS, which are other ones in the print. */
    private static String told(FigureTexts x) {
        StringBuilder text = new StringBuilder();
        for (int what = 0; what <= 5; what++) {
            text.append(x.count(what)).append(' ');
        }
        for (int i = 0; i < x.count(0); i++) {
            text.append(x.kind(i)).append(':').append(x.leans(i)).append(':').append(x.number(i, 0, 0)).append('/').append(x.number(i, 0, 1)).append(' ');
        }
        for (int i = 0; i < x.count(2); i++) {
            text.append(x.fall(i, 0)).append('!');
        }
        return text.append(Due.stated(x)).toString();
    }

    private void printedAgain() {
        String text = "macro f(p,q){if x(p)<x(q){give mid(p,q);}give p;}a=free(1,2);b=free(3,-4/3);c=line(a,b);d=round(b,9);" + text(DEEDS, 9);
        FigureTexts x = new FigureTexts();
        Due.feed(x, text);
        int nodes = x.read();
        DUE.is("whether it is read: " + text, nodes > 0, true);
        x.run();
        String first = told(x);
        int bytes = x.print();
        DUE.is("back()", x.back(), bytes);
        DUE.is("read() of the print of " + text, x.read(), nodes);
        x.run();
        DUE.is("what a RUN of the print tells of " + text, told(x), first);
        DUE.is("the print of the print", x.print(), bytes);
    }
}
