import java.io.ByteArrayOutputStream;
import java.io.IOException;
import java.io.PrintStream;
import java.nio.charset.StandardCharsets;
import java.nio.file.Files;
import java.nio.file.Path;

/** The example in README.md is right as it stands. */
final class ReadmeTest {
    private ReadmeTest() {
    }

    static void all(Path project) {
        Check.test("README.md shows Example.java", () -> Check.same("the example",
                block(project, "java"), text(project.resolve("src/test/java/Example.java"))));
        Check.test("README.md tells what Example prints", () -> Check.same("the output",
                block(project, "text"), printed()));
    }

    /** What stands between the first fence of a language and the end of it. */
    private static String block(Path project, String language) {
        String readme = text(project.resolve("README.md"));
        String fence = "\n```" + language + "\n";
        int start = readme.indexOf(fence);
        int end = readme.indexOf("\n```\n", start + fence.length());
        if (start < 0 || end < 0) {
            return "no block of " + language;
        }
        return readme.substring(start + fence.length(), end + 1);
    }

    private static String text(Path file) {
        try {
            return Files.readString(file);
        } catch (IOException e) {
            throw new IllegalStateException(e);
        }
    }

    private static String printed() {
        PrintStream before = System.out;
        ByteArrayOutputStream bytes = new ByteArrayOutputStream();
        System.setOut(new PrintStream(bytes, true, StandardCharsets.UTF_8));
        try {
            Example.main(new String[0]);
        } finally {
            System.setOut(before);
        }
        return bytes.toString(StandardCharsets.UTF_8).replace(System.lineSeparator(), "\n");
    }
}
