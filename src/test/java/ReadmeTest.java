import java.io.ByteArrayOutputStream;
import java.io.IOException;
import java.io.PrintStream;
import java.nio.file.Files;
import java.nio.file.Path;

/** README.md shows the Example as it is, with what it prints, and names each test that there is. */
public final class ReadmeTest {
    private static int wrong;

    private static void expect(boolean so, String otherwise) {
        if (!so) {
            wrong++;
            System.out.println(otherwise);
        }
    }

    private static String printedByExample() {
        PrintStream usual = System.out;
        ByteArrayOutputStream bytes = new ByteArrayOutputStream();
        System.setOut(new PrintStream(bytes, true));
        Example.main(new String[0]);
        System.setOut(usual);
        return bytes.toString().replace("\r\n", "\n");
    }

    private static String fenced(String kind, String text) {
        return "```" + kind + "\n" + text + "```\n";
    }

    public static void main(String[] args) throws IOException {
        String readme = Files.readString(Path.of("README.md"));
        String example = Files.readString(Path.of("src/test/java/Example.java"));
        String body = example.substring(example.indexOf("public final class"));
        expect(readme.contains(fenced("java", body)), "README.md does not show Example.java as it is");
        String printed = printedByExample();
        expect(readme.contains(fenced("text", printed)), "README.md does not tell what Example prints:\n" + printed);
        try (var tests = Files.newDirectoryStream(Path.of("src/test/java"), "*Test.java")) {
            for (Path test : tests) {
                String name = test.getFileName().toString().replace(".java", "");
                expect(readme.contains("`" + name + "`"), "README.md does not name " + name);
            }
        }
        System.out.println("ReadmeTest: " + (wrong == 0 ? "all is as due" : wrong + " things are not as due"));
        if (wrong != 0) {
            System.exit(1);
        }
    }
}
