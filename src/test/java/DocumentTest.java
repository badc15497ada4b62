import java.io.IOException;
import java.lang.reflect.Method;
import java.nio.file.DirectoryStream;
import java.nio.file.Files;
import java.nio.file.Path;
import java.util.ArrayList;
import java.util.List;
import java.util.Map;
import java.util.TreeMap;

/**
 * Holds the tests against the document: all that a test says stands there, under its promise or ahead
 * of the promises, and of each promise and of the terms nothing is left that no test says.
 */
final class DocumentTest {
    private static final Path DOCUMENT = Path.of("../shared/DOC.md");
    private static final int PROMISES = 28;

    private final Check check = new Check();
    private final Map<Integer, List<String>> said = new TreeMap<>();
    private final Map<Integer, String> promises = new TreeMap<>();
    private String ahead;
    private String terms;

    public static void main(String[] args) throws IOException, ReflectiveOperationException {
        DocumentTest test = new DocumentTest();
        test.readDocument();
        test.readTests();
        test.allThatIsSaidStandsThere();
        test.allThatStandsThereIsSaid();
        test.check.finish();
    }

    private static String plain(String text) {
        return text.replaceAll("```(text)?", " ").replaceAll("\\s+", " ").trim();
    }

    private void readDocument() throws IOException {
        String whole = Files.readString(DOCUMENT);
        String[] parts = whole.split("\n## Promise |\n## Not promised");
        ahead = plain(parts[0]);
        terms = plain(parts[0].substring(parts[0].indexOf("\n## Terms\n") + 10));
        for (int i = 1; i <= PROMISES && i < parts.length; i++) {
            int number = Integer.parseInt(parts[i].substring(0, parts[i].indexOf(':')));
            promises.put(number, plain(parts[i].substring(parts[i].indexOf('\n'))));
        }
        check.due("promises in the document", promises.size(), PROMISES);
    }

    private void readTests() throws IOException, ReflectiveOperationException {
        try (DirectoryStream<Path> files = Files.newDirectoryStream(Path.of("src/test/java"), "Promise*Test.java")) {
            for (Path file : files) {
                String name = file.getFileName().toString().replace(".java", "");
                List<String> words = new ArrayList<>();
                for (Method test : Promise.testsOf(Class.forName(name))) {
                    words.addAll(List.of(test.getAnnotation(Says.class).value()));
                }
                int number = Integer.parseInt(name.replaceAll("\\D", ""));
                check.due("one class of tests for promise " + number, said.put(number, words) == null, true);
            }
        }
        check.due("promises with tests", said.size(), PROMISES);
    }

    private void allThatIsSaidStandsThere() {
        for (Map.Entry<Integer, List<String>> entry : said.entrySet()) {
            for (String words : entry.getValue()) {
                boolean there = ahead.contains(words) || promises.get(entry.getKey()).contains(words);
                check.due("promise " + entry.getKey() + " says <" + words + ">", there, true);
            }
        }
    }

    private void allThatStandsThereIsSaid() {
        List<String> all = new ArrayList<>();
        for (Map.Entry<Integer, String> entry : promises.entrySet()) {
            List<String> own = said.getOrDefault(entry.getKey(), List.of());
            String text = entry.getValue().replaceFirst("^`[^`]*`: ", "");
            nothingLeft("promise " + entry.getKey(), text, own);
            all.addAll(own);
        }
        String plainTerms = terms.replaceAll("====( \\d\\.)?", " ").replaceAll("(PAGES|LIKENESS|LOOPS|RUNS)\\. ", " ")
                .replaceAll("The constants:", " ");
        nothingLeft("terms", plainTerms.replaceAll("\\s+", " "), all);
    }

    /** Strikes out what is said; a letter that is left belongs to words that no test says. */
    private void nothingLeft(String where, String text, List<String> words) {
        StringBuilder left = new StringBuilder(text);
        for (String one : words) {
            for (int at = text.indexOf(one); at >= 0; at = text.indexOf(one, at + 1)) {
                for (int k = at; k < at + one.length(); k++) {
                    left.setCharAt(k, '.');
                }
            }
        }
        String rest = left.toString().replaceAll("[^A-Za-z]*\\.\\.+[^A-Za-z]*", " .. ");
        check.due(where + ", said by no test: " + rest, rest.matches("[^A-Za-z]*"), true);
    }
}
