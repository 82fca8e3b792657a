import java.io.IOException;
import java.nio.file.Files;
import java.nio.file.Path;
import java.util.LinkedHashMap;
import java.util.List;
import java.util.Map;
import java.util.regex.Matcher;
import java.util.regex.Pattern;
import java.util.stream.Collectors;
import java.util.stream.Stream;

/**
 * Holds the edge tests to the document: each text that they say they test stands in its section, just
 * once, and each clause of each section is touched by one of these texts.
 */
public final class DocumentTest {
    private static final Check check = new Check("DocumentTest");
    private static final Path DOCUMENT = Path.of("../shared/DOC.md");
    private static final Path TESTS = Path.of("src/test/java");
    private static final Pattern SAYS = Pattern.compile("check\\.says\\(\\s*\"([^\"]+)\",\\s*\"([^\"]+)\"\\)");
    private static final Pattern CLAUSE = Pattern.compile("(?:\\.\\. |[^.;]|\\.(?! |$)|;(?! |$))+");

    public static void main(String[] args) throws IOException {
        Map<String, String> sections = sections(plain(Files.readString(DOCUMENT)));
        Map<String, boolean[]> touched = new LinkedHashMap<>();
        sections.forEach((name, text) -> touched.put(name, new boolean[text.length()]));
        Matcher said = SAYS.matcher(edgeTests());
        while (said.find()) {
            touch(sections.get(said.group(1)), touched.get(said.group(1)), said.group(1), said.group(2));
        }
        sections.forEach((name, text) -> allTouched(name, text, touched.get(name)));
        check.same("sections", sections.size(), 32);
        check.finish();
    }

    private static String edgeTests() throws IOException {
        StringBuilder all = new StringBuilder();
        try (Stream<Path> files = Files.list(TESTS)) {
            List<Path> tests = files.filter(file -> file.toString().endsWith("EdgeTest.java")).sorted()
                    .collect(Collectors.toList());
            for (Path file : tests) {
                all.append(Files.readString(file));
            }
        }
        return all.toString();
    }

    private static String plain(String text) {
        return text.replace("```text", " ").replace("```", " ").replaceAll("\\s+", " ");
    }

    /** The four parts of the terms, what is said of the refused and the dead, and the promises. */
    private static Map<String, String> sections(String text) {
        Map<String, String> sections = new LinkedHashMap<>();
        String[] marks = {"## Terms ", "==== 2. ", "==== 3. ", "==== 4. ", "What is refused", "The constants:"};
        String[] names = {"Terms 1", "Terms 2", "Terms 3", "Terms 4", "Refused"};
        int begin = text.indexOf(marks[0]);
        for (int i = 0; i < names.length; i++) {
            int from = text.indexOf(marks[i], begin);
            int to = text.indexOf(marks[i + 1], from);
            sections.put(names[i], text.substring(from, to).replaceFirst("^(## Terms|==== \\d\\.) ", "").trim());
            begin = to;
        }
        Matcher promise = Pattern.compile("## (Promise \\d+): [^`]*`[^`]*`:(.*?)(?= ## )").matcher(text);
        while (promise.find()) {
            sections.put(promise.group(1), promise.group(2).trim());
        }
        return sections;
    }

    private static void touch(String section, boolean[] touched, String name, String words) {
        check.yes("there is a section " + name, section != null);
        if (section == null) {
            return;
        }
        int at = section.indexOf(words);
        check.yes(name + " says '" + words + "'", at >= 0);
        check.yes(name + " says once '" + words + "'", at < 0 || section.indexOf(words, at + 1) < 0);
        for (int i = Math.max(at, 0); at >= 0 && i < at + words.length(); i++) {
            touched[i] = true;
        }
    }

    private static void allTouched(String name, String section, boolean[] touched) {
        Matcher clause = CLAUSE.matcher(section);
        while (clause.find()) {
            boolean refuses = clause.group().trim().matches("(NONE|False|NoSuchElementException): .*");
            int from = clause.start();
            for (String part : refuses ? clause.group().split("(?<=, )") : new String[] {clause.group()}) {
                boolean any = part.isBlank();
                for (int i = from; i < from + part.length(); i++) {
                    any |= touched[i];
                }
                check.yes("an edge test of " + name + " '" + part.trim() + "'", any);
                from += part.length();
            }
        }
    }
}
