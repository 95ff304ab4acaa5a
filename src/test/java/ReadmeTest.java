import java.io.ByteArrayOutputStream;
import java.io.IOException;
import java.io.PrintStream;
import java.nio.charset.StandardCharsets;
import java.nio.file.Files;
import java.nio.file.Path;

/** README.md shows the example as it is, and what it prints. It is run in the project's directory. */
public final class ReadmeTest {
    public static void main(String[] args) throws IOException {
        String readme = Files.readString(Path.of("README.md"));
        Check.same("the example in README.md", block(readme, "java"), Files.readString(Path.of("example/Siege.java")));
        Check.same("what it prints", block(readme, "text"), printedBySiege());
        Check.end();
    }

    /** Returns the text of the first block of this kind, nothing if there is none. */
    private static String block(String readme, String kind) {
        String opening = "```" + kind + "\n";
        int start = readme.indexOf(opening);
        int end = start < 0 ? -1 : readme.indexOf("```", start + opening.length());
        return end < 0 ? "" : readme.substring(start + opening.length(), end);
    }

    private static String printedBySiege() {
        PrintStream before = System.out;
        ByteArrayOutputStream printed = new ByteArrayOutputStream();
        System.setOut(new PrintStream(printed, true, StandardCharsets.UTF_8));
        Siege.main(new String[0]);
        System.setOut(before);
        return printed.toString(StandardCharsets.UTF_8).replace(System.lineSeparator(), "\n");
    }
}
