import java.io.IOException;
import java.nio.file.Files;
import java.nio.file.Path;
import java.util.ArrayList;
import java.util.LinkedHashMap;
import java.util.List;
import java.util.Map;
import java.util.regex.Matcher;
import java.util.regex.Pattern;

/** SENTENCES.md: it has each sentence of the document, and the tests that it names are run. */
final class SentencesTest {
    private static final Path DOCUMENT = Path.of("../shared/DOC.md");
    private static final Path LIST = Path.of("src/test/SENTENCES.md");
    private static final Path TESTS = Path.of("src/test/java");
    private static final String HEAD = "| the document says | tests |";
    private static final String NOTHING = "nothing to test";
    /** A test class, one method of it, or one more method of the class named before. */
    private static final Pattern NAME = Pattern.compile("`(?:(\\w+Test)(?:\\.(\\w+))?|(\\w+))`");

    private record Row(String sentence, String tests) {
    }

    private SentencesTest() {
    }

    public static void main(String[] args) throws IOException {
        Map<String, List<Row>> list = sectionsOfTheList();
        // The tests go without the document where ../shared holds no more than its tests.
        if (Files.exists(DOCUMENT)) {
            everySentenceIsListed(sectionsOfTheDocument(), list);
        }
        for (List<Row> rows : list.values()) {
            for (Row row : rows) {
                namedTestsAreRun(row);
            }
        }
        Check.end();
    }

    private static Map<String, List<Row>> sectionsOfTheList() throws IOException {
        Map<String, List<Row>> sections = new LinkedHashMap<>();
        List<Row> rows = new ArrayList<>();
        for (String line : Files.readAllLines(LIST)) {
            if (line.startsWith("## ")) {
                rows = new ArrayList<>();
                sections.put(line.substring(3), rows);
            } else if (line.startsWith("| ") && !line.equals(HEAD)) {
                String[] cells = line.split(" ?\\| ?");
                Check.same("cells of: " + line, cells.length, 3);
                rows.add(new Row(cells[1], cells[cells.length - 1]));
            }
        }
        return sections;
    }

    /** The text below each heading; a line of capitals is a heading too. */
    private static Map<String, String> sectionsOfTheDocument() throws IOException {
        Map<String, String> sections = new LinkedHashMap<>();
        String name = "";
        for (String line : Files.readAllLines(DOCUMENT)) {
            if (line.startsWith("#") || line.matches("[A-Z]+")) {
                name = line.replaceFirst("#+ ", "");
            } else if (!line.startsWith("```") && !line.isBlank()) {
                sections.merge(name, line.trim(), (before, more) -> before + " " + more);
            }
        }
        return sections;
    }

    private static void everySentenceIsListed(
            Map<String, String> document, Map<String, List<Row>> list) {
        sameText("sections", String.join(", ", list.keySet()), String.join(", ", document.keySet()));
        for (Map.Entry<String, String> section : document.entrySet()) {
            List<String> sentences = new ArrayList<>();
            for (Row row : list.getOrDefault(section.getKey(), List.of())) {
                sentences.add(row.sentence);
            }
            sameText(section.getKey(), String.join(" ", sentences), section.getValue());
        }
    }

    private static void sameText(String what, String listed, String due) {
        int place = 0;
        while (place < listed.length() && place < due.length()
                && listed.charAt(place) == due.charAt(place)) {
            place++;
        }
        Check.same(what + ": the list has \"" + listed.substring(place)
                + "\" where the document has \"" + due.substring(place) + "\", and",
                listed.equals(due) ? 0 : 1, 0);
    }

    private static void namedTestsAreRun(Row row) throws IOException {
        Matcher name = NAME.matcher(row.tests);
        String code = "";
        int named = 0;
        while (name.find()) {
            if (name.group(1) != null) {
                code = codeOf(name.group(1));
            }
            String method = name.group(1) == null ? name.group(3) : name.group(2);
            named++;
            Check.same("run: " + name.group(), isRun(code, method) ? 1 : 0, 1);
        }
        Check.same("no test of: " + row.sentence,
                named > 0 || row.tests.equals(NOTHING) ? 0 : 1, 0);
    }

    private static String codeOf(String test) throws IOException {
        Path file = TESTS.resolve(test + ".java");
        return Files.exists(file) ? Files.readString(file) : "";
    }

    /** Whether the test's main calls the method, or, without a method, whether there is a test. */
    private static boolean isRun(String code, String method) {
        return method == null ? code.contains("void main(")
                : code.contains("\n        " + method + "();\n")
                        && code.contains(" static void " + method + "() ");
    }
}
