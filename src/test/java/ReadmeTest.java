import java.io.IOException;
import java.net.URL;
import java.net.URLClassLoader;
import java.nio.file.Files;
import java.nio.file.Path;
import java.util.regex.Matcher;
import java.util.regex.Pattern;
import javax.tools.ToolProvider;

/** README.md: its example compiles, and each call answers what stands behind it. */
public final class ReadmeTest {
    private static final Check check = new Check("ReadmeTest");
    private static final Pattern BLOCK = Pattern.compile("```java\n(.*?)```", Pattern.DOTALL);
    private static final Pattern ANSWER = Pattern.compile("(house\\..*);\\s+// (-?\\d+|true|false)\\b.*");
    private static final Pattern THROWN = Pattern.compile("(house\\..*);\\s+// throws (\\w+)");

    public static void main(String[] args) throws IOException, ReflectiveOperationException {
        String readme = Files.readString(Path.of("README.md"));
        Path folder = Files.createTempDirectory("readme");
        Path file = folder.resolve("ReadmeExample.java");
        Files.writeString(file, asProgram(readme));
        String path = System.getProperty("java.class.path");
        int failed = ToolProvider.getSystemJavaCompiler().run(null, null, null,
                "-cp", path, "-d", folder.toString(), file.toString());
        check.same("the compiler", failed, 0);
        if (failed == 0) {
            runFrom(folder);
        }
        for (Path test : tests()) {
            String name = test.getFileName().toString().replace(".java", "");
            check.yes("README.md names " + name, readme.contains(name));
        }
        remove(folder);
        check.finish();
    }

    private static String asProgram(String readme) {
        StringBuilder program = new StringBuilder("public final class ReadmeExample {\n"
                + "public static void run(java.util.function.BiConsumer<String, Object[]> same) {\n");
        int answers = 0;
        Matcher block = BLOCK.matcher(readme);
        while (block.find()) {
            for (String line : block.group(1).split("\n")) {
                String checked = asCheck(line);
                answers += checked.equals(line) ? 0 : 1;
                program.append(checked).append('\n');
            }
        }
        check.yes("the example tells answers", answers >= 27);
        return program.append("}\n}\n").toString();
    }

    private static String asCheck(String line) {
        Matcher answer = ANSWER.matcher(line);
        if (answer.matches()) {
            return "same.accept(\"" + answer.group(1).replace("\"", "'") + "\", new Object[] {"
                    + answer.group(1) + ", " + answer.group(2) + "});";
        }
        Matcher thrown = THROWN.matcher(line);
        if (thrown.matches()) {
            return "{ boolean thrown = false; try { " + thrown.group(1) + "; } catch (java.util."
                    + thrown.group(2) + " e) { thrown = true; } same.accept(\"" + thrown.group(1)
                    + " throws\", new Object[] {thrown, true}); }";
        }
        return line;
    }

    private static void runFrom(Path folder) throws IOException, ReflectiveOperationException {
        URL[] place = {folder.toUri().toURL()};
        try (URLClassLoader loader = new URLClassLoader(place, ReadmeTest.class.getClassLoader())) {
            java.util.function.BiConsumer<String, Object[]> same = (call, answers) ->
                    check.yes("README.md: " + call + " answered " + answers[0] + ", it says " + answers[1],
                            answers[0].equals(answers[1]));
            loader.loadClass("ReadmeExample").getMethod("run", java.util.function.BiConsumer.class)
                    .invoke(null, same);
        }
    }

    private static Iterable<Path> tests() throws IOException {
        try (var files = Files.list(Path.of("src/test/java"))) {
            return files.filter(file -> file.toString().endsWith("Test.java")).sorted().toList();
        }
    }

    private static void remove(Path folder) throws IOException {
        try (var files = Files.list(folder)) {
            for (Path file : files.toList()) {
                Files.delete(file);
            }
        }
        Files.delete(folder);
    }
}
