import java.io.IOException;
import java.nio.file.Files;
import java.nio.file.Path;
import java.util.ArrayList;
import java.util.List;

/** The README's example stands here once more, line by line, and answers what the README tells. */
final class ReadmeTest {
    private static final Checks CHECKS = new Checks();

    public static void main(String[] args) throws IOException {
        example();
        theExampleIsTheReadmes();
        CHECKS.finish();
    }

    private static void example() {
        CellLibrary library = new CellLibrary();
        String text = "table t : 0 10 / 1 5 / 10 20 30 40 ;"
            + " cell INV { in a ; out Y = !a ; load 9 ; area 3 ; arc a Y neg t t ; power 1 2 ; }"
            + " cell INV2 { in i ; out Q = 1 ^ i ; drive 2 ; load 30 ; area 5 ; }";
        for (int i = 0; i < text.length(); i++) {
            library.unit(text.charAt(i));
        }
        int cells = library.read();                    // 2
        long truth = library.truth(0, 0);              // 1: the output is 1 in state 0 alone
        int sense = library.sense(0, 0, 0);            // -1: it falls with the input
        int delay = library.delay(0, 0, 5, 3, true);   // 25
        boolean alike = library.alike(0, 1);           // true
        int best = library.best(0, 10);                // 1: INV2 is the smallest for a load of 10

        library.unit('?');
        int fault = library.read();                    // -1: a fault at place 0; both cells are still there

        CHECKS.due("cells", cells, 2);
        CHECKS.due("truth", truth, 1);
        CHECKS.due("sense", sense, -1);
        CHECKS.due("delay", delay, 25);
        CHECKS.due("alike", alike, true);
        CHECKS.due("best", best, 1);
        CHECKS.due("fault", fault, -1);
        CHECKS.due("both cells are still there", library.count(0), 2);
    }

    private static void theExampleIsTheReadmes() throws IOException {
        List<String> source = Files.readAllLines(Path.of("src/test/java/ReadmeTest.java"));
        List<String> lines = blockOf(Files.readAllLines(Path.of("README.md")));
        CHECKS.due("the README has an example", lines.isEmpty(), false);
        int first = lines.isEmpty() ? -1 : source.indexOf(indented(lines.get(0)));
        for (int i = 0; i < lines.size(); i++) {
            boolean same = first >= 0 && first + i < source.size() && source.get(first + i).equals(indented(lines.get(i)));
            CHECKS.due("this test has the README's line " + lines.get(i), same, true);
        }
    }

    private static List<String> blockOf(List<String> readme) {
        List<String> block = new ArrayList<>();
        int begin = readme.indexOf("```java") + 1;
        for (int i = begin; begin > 0 && i < readme.size() && !readme.get(i).equals("```"); i++) {
            block.add(readme.get(i));
        }
        return block;
    }

    private static String indented(String line) {
        return line.isEmpty() ? "" : "        " + line;
    }
}
