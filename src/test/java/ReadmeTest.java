import java.io.IOException;
import java.nio.file.Files;
import java.nio.file.Path;
import java.util.ArrayList;
import java.util.List;

/** README.md says how to use the class: what it shows is done here, and is shown there as it is done here. */
public final class ReadmeTest {
    private static final Due DUE = new Due("README.md");

    public static void main(String[] args) throws IOException {
        List<String> readme = Files.readAllLines(Path.of("README.md"));
        List<String> here = Files.readAllLines(Path.of("src/test/java/ReadmeTest.java"));
        DUE.holds("its code is that of this test", () -> codeIsHere(readme, here));
        DUE.holds("its code answers so", ReadmeTest::answers);
        DUE.holds("its figure's text", () -> figure(String.join("\n", blocks(readme, "text"))));
        DUE.end();
    }

    static void feedText(FigureTexts x, String text) {
        int before = x.count(7);
        for (int i = 0; i < text.length(); i += 20) {
            int[] five = new int[5];
            for (int j = 0; j < 20; j++) {
                five[j / 4] = five[j / 4] << 8 | (i + j < text.length() ? text.charAt(i + j) & 255 : ' ');
            }
            x.feed(five[0], five[1], five[2], five[3], five[4]);
        }
        x.cut(before + text.length());
    }

    private static void answers() {
        FigureTexts x = new FigureTexts();
        feedText(x, "a = free(1, 2); draw a; state x(a) < 3;");
        int nodes = x.read();
        int drawn = x.run();
        long top = x.number(0, 1, 0);
        int held = x.stated(0);
        int moved = x.move(0, 7, 1, 2);
        int again = x.run();
        int bytes = x.write(0);
        DUE.is("read()", nodes, 11);
        DUE.is("run()", drawn, 1);
        DUE.is("number(0, 1, 0)", top, 2);
        DUE.is("stated(0)", held, 1);
        DUE.is("move(0, 7, 1, 2)", moved, 1);
        DUE.is("run() again", again, 1);
        DUE.is("write(0)", bytes, 10);
        DUE.is("THE OUT", Due.out(x), "(7/2, 1/2)");
        int ones = x.sweep(0, -1, 0, 2, 0);
        int first = x.swept(0);
        int printed = x.print();
        int taped = x.back();
        DUE.is("sweep(0, -1, 0, 2, 0)", ones, 2);
        DUE.is("swept(0)", first, 0);
        DUE.is("swept(1)", x.swept(1), 1);
        DUE.is("swept(2)", x.swept(2), 1);
        DUE.is("print()", printed, 40);
        DUE.is("back()", taped, 40);
        DUE.is("THE OUT", Due.out(x), "a = free(1, 2);\ndraw a;\nstate x(a) < 3;\n");
    }

    private static void codeIsHere(List<String> readme, List<String> here) {
        List<String> lines = new ArrayList<>();
        for (String line : here) {
            lines.add(line.strip());
        }
        for (String line : blocks(readme, "java")) {
            String code = line.replaceAll("//.*", "").strip();
            DUE.is("this test has " + code, lines.contains(code), true);
        }
    }

    private static void figure(String text) {
        DUE.does(text, "<2, 1, 5>", "1", "");
    }

    /** The lines of all blocks of that language. */
    private static List<String> blocks(List<String> readme, String language) {
        List<String> lines = new ArrayList<>();
        boolean within = false;
        for (String line : readme) {
            if (line.startsWith("```")) {
                within = line.equals("```" + language);
            } else if (within) {
                lines.add(line);
            }
        }
        return lines;
    }
}
