/** All promises: by calls with drawn texts and numbers, no call throws but as told, and refused calls change nothing. */
public final class AnyCallTest {
    private static final Due DUE = new Due("AnyCallTest");
    private static final String[] PIECES = {"macro ", "if ", "else ", "times ", "state ", "draw ", "give ", "a", "b", "c", "f", "p", "q",
        "0", "1", "2", "3", "999999999", ";", ";", ";", ",", "=", "=", "<", "+", "-", "*", "/", "(", ")", "[", "]", "{", "}",
        "x(", "mid(", "point(", "line(", "seg(", "row(", "free(", "ring(", "cut(", "a=", "b=", "draw a;", "a=free(1,2);", "b=row(3);",
        "b[1]=a;", "draw b[1];", "f(", "macro f(p){give p;}", "macro g(){", "times 3{", "if a{", "}else{", "\n", " ", "$", "state 1;",
        "draw 1/0;", "times 99{a=free(1,1);}", "state is(a,a);", "c=line(a,point(3,4));", "draw foot(a,c);", "draw meet(c,c);"};
    private static final int[] EDGES = {Integer.MIN_VALUE, Integer.MAX_VALUE, -1, 0, 1, 2, 3, 5, 11, 12, 19, 20, 21, 40, 250, 2999, 3000,
        1000000000, 1000000001, -1000000000, 0x61616161, 0x20202020};

    private long seed;

    private AnyCallTest(long seed) {
        this.seed = seed;
    }

    public static void main(String[] args) {
        for (int i = 1; i <= 400; i++) {
            new AnyCallTest(i * 7919L).life();
        }
        DUE.end();
    }

    private int draw(int below) {
        seed = seed * 6364136223846793005L + 1442695040888963407L;
        return (int) ((seed >>> 33) % below);
    }

    private int edge() {
        return EDGES[draw(EDGES.length)];
    }

    private String text() {
        StringBuilder text = new StringBuilder();
        int pieces = draw(60);
        for (int i = 0; i < pieces; i++) {
            text.append(PIECES[draw(PIECES.length)]);
        }
        return text.toString();
    }

    private void life() {
        FigureTexts x = new FigureTexts();
        for (int i = 0; i < 12; i++) {
            x.cut(0);
            Due.feed(x, i % 3 == 0 ? "a=free(1,2);b=row(3);" + text() : "a=free(1,2);draw a;state x(a);" + text() + ";");
            if (x.read() < 0 && i % 2 == 0) {
                Due.feed(x, "a=free(1,2);c=free(x(a),1/0);draw a;state x(a)-1;draw line(a,point(0,0));");
                x.read();
            }
            x.run();
            for (int j = 0; j < 20; j++) {
                call(x, draw(22), edge(), edge(), edge(), edge());
            }
        }
    }

    private static String state(FigureTexts x) {
        StringBuilder state = new StringBuilder();
        for (int what = 0; what <= 8; what++) {
            state.append(x.count(what)).append(' ');
        }
        for (int i = 0; i < x.count(8) && i < 30; i++) {
            state.append((char) x.out(i));
        }
        return state.append(x.place()).append(' ').append(x.swept(0)).append(Due.stated(x)).append(Due.falls(x)).toString();
    }

    private static boolean mayThrow(int which) {
        return which >= 9 && which <= 12 || which >= 14 && which <= 16;
    }

    private static void call(FigureTexts x, int which, int a, int b, int c, int d) {
        String name = "call " + which + " (" + a + ", " + b + ", " + c + ", " + d + ")";
        String before = state(x);
        try {
            long answer = answer(x, which, a, b, c, d);
            if (answer <= FigureTexts.UNKNOWN && answer >= FigureTexts.SPENT) {
                DUE.is("the state behind a refused " + name, state(x), before);
            }
        } catch (RuntimeException thrown) {
            DUE.is("what " + name + " throws", thrown.getClass().getName(), IndexOutOfBoundsException.class.getName());
            DUE.is("whether " + name + " may throw", mayThrow(which), true);
            DUE.is("the state behind " + name, state(x), before);
        }
    }

    private static long answer(FigureTexts x, int which, int a, int b, int c, int d) {
        switch (which) {
            case 0: return x.feed(a, b, c, d, a);
            case 1: return x.cut(a);
            case 2: return x.read();
            case 3: return x.place();
            case 4: return x.about(a);
            case 5: return x.move(a, b, c, d);
            case 6: return x.loose(a);
            case 7: return x.run();
            case 8: return x.count(a);
            case 9: return x.kind(a);
            case 10: return x.number(a, b, c);
            case 11: return x.leans(a);
            case 12: return x.stated(a);
            case 13: return x.fall(a, b);
            case 14: return x.same(a, b) ? 1 : 0;
            case 15: return x.write(a);
            case 16: return x.out(a);
            case 17: return x.print();
            case 18: return x.back();
            case 19: return x.sweep(a % 3, b, c, d, a);
            case 20: return x.swept(a);
            default: return x.tried(a, b, c);
        }
    }
}
