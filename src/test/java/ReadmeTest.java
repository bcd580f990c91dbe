import java.io.ByteArrayOutputStream;
import java.io.PrintStream;
import java.net.URL;
import java.net.URLClassLoader;
import java.nio.file.Files;
import java.nio.file.Path;
import java.util.ArrayList;
import java.util.List;
import java.util.regex.Matcher;
import java.util.regex.Pattern;
import javax.tools.ToolProvider;

/** The example of README.md is a program that compiles, and prints what its remarks say. */
public final class ReadmeTest {
    public static void main(String[] args) throws Exception {
        String readme = Files.readString(Path.of("README.md"));
        Matcher block = Pattern.compile("(?s)```java\n(.*?)```").matcher(readme);
        if (!block.find()) {
            throw new IllegalStateException("README.md has no example");
        }
        List<Long> due = remarks(block.group(1));
        String[] printed = run(block.group(1)).split("\n");
        Check check = new Check();
        check.due("lines that the example prints", printed.length, due.size());
        for (int i = 0; i < due.size() && i < printed.length; i++) {
            check.due("line " + i + " of the example", Long.parseLong(printed[i].strip()), due.get(i));
        }
        check.close();
    }

    /** The number behind // of each line that prints. */
    private static List<Long> remarks(String program) {
        List<Long> numbers = new ArrayList<>();
        for (String line : program.split("\n")) {
            if (line.contains("println(")) {
                numbers.add(Long.parseLong(line.replaceAll(".*// (-?[0-9]+).*", "$1")));
            }
        }
        return numbers;
    }

    private static String run(String program) throws Exception {
        Path folder = Files.createTempDirectory("readme");
        Path file = folder.resolve("Example.java");
        Files.writeString(file, program);
        int refused = ToolProvider.getSystemJavaCompiler().run(null, null, null,
                "-d", folder.toString(), "src/main/java/MotherBench.java", file.toString());
        if (refused != 0) {
            throw new IllegalStateException("the example of README.md does not compile");
        }
        ByteArrayOutputStream bytes = new ByteArrayOutputStream();
        PrintStream before = System.out;
        try (URLClassLoader loader = new URLClassLoader(new URL[] {folder.toUri().toURL()}, null)) {
            System.setOut(new PrintStream(bytes, true));
            loader.loadClass("Example").getMethod("main", String[].class).invoke(null, (Object) new String[0]);
        } finally {
            System.setOut(before);
            try (var files = Files.list(folder)) {
                for (Path made : files.toList()) {
                    Files.delete(made);
                }
            }
            Files.delete(folder);
        }
        return bytes.toString();
    }
}
