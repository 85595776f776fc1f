import java.io.ByteArrayOutputStream;
import java.io.IOException;
import java.io.PrintStream;
import java.nio.file.Files;
import java.nio.file.Path;
import java.util.ArrayList;
import java.util.Arrays;
import java.util.List;

/** README.md shows the program Example.java and no other, and it prints what its comments say. */
public final class ReadmeTest {
    private static final Path README = Path.of("README.md");
    private static final Path EXAMPLE = Path.of("src/test/java/Example.java");

    public static void main(String[] args) throws IOException {
        List<String> example = Files.readAllLines(EXAMPLE);
        Check.is("README.md shows Example.java", String.join("\n", javaOf(Files.readAllLines(README))),
                String.join("\n", example));
        compare(printing(example), printed());
        Check.end();
    }

    /** What stands in the blocks of Java, one behind the other. */
    private static List<String> javaOf(List<String> page) {
        List<String> code = new ArrayList<>();
        boolean isJava = false;
        for (String line : page) {
            if (line.startsWith("```")) {
                isJava = line.equals("```java");
            } else if (isJava) {
                code.add(line);
            }
        }
        return code;
    }

    /** The lines that print, which are run in the order in which they stand. */
    private static List<String> printing(List<String> example) {
        List<String> printing = new ArrayList<>();
        for (String line : example) {
            if (line.trim().startsWith("print(")) {
                printing.add(line.trim());
            }
        }
        return printing;
    }

    private static List<String> printed() {
        PrintStream console = System.out;
        ByteArrayOutputStream bytes = new ByteArrayOutputStream();
        System.setOut(new PrintStream(bytes, true));
        try {
            Example.main(new String[0]);
        } finally {
            System.setOut(console);
        }
        return Arrays.asList(bytes.toString().split("\\R"));
    }

    private static void compare(List<String> printing, List<String> printed) {
        for (int i = 0; i < printing.size(); i++) {
            String answer = i < printed.size() ? printed.get(i) : "nothing";
            Check.is("README.md, " + printing.get(i), answer, dueOf(printing.get(i)));
        }
        Check.is("README.md, the number of lines printed", printed.size(), printing.size());
    }

    /** The comment, as far as its first comma; without a comment nothing fits. */
    private static String dueOf(String line) {
        int comment = line.indexOf("// ");
        return comment < 0 ? "no comment" : line.substring(comment + 3).split(",")[0];
    }
}
