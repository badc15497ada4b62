import java.io.IOException;
import java.lang.reflect.Method;
import java.lang.reflect.Modifier;
import java.net.URL;
import java.net.URLClassLoader;
import java.nio.file.DirectoryStream;
import java.nio.file.Files;
import java.nio.file.Path;
import java.util.ArrayList;
import java.util.List;
import java.util.regex.Matcher;
import java.util.regex.Pattern;
import javax.tools.ToolProvider;

/** README.md shows each call of the class; what it shows compiles and answers as is said there. */
final class ReadmeTest {
    private static final Pattern BLOCK = Pattern.compile("(?s)```java\n(.*?)```");
    private static final Pattern SHOWN = Pattern.compile("(?m)^(.*\\));\\s*// (-?\\d+|true|false)\\b.*$");

    private final Check check = new Check();
    private final String readme;
    private final StringBuilder helpers = new StringBuilder();
    private final StringBuilder calls = new StringBuilder();

    private ReadmeTest(String readme) {
        this.readme = readme;
    }

    public static void main(String[] args) throws IOException, ReflectiveOperationException {
        ReadmeTest test = new ReadmeTest(Files.readString(Path.of("README.md")));
        test.readBlocks();
        test.eachCallIsShown();
        test.eachAnswerIsAsSaid();
        test.eachTestIsNamed();
        test.check.finish();
    }

    private void readBlocks() {
        Matcher block = BLOCK.matcher(readme);
        while (block.find()) {
            String code = block.group(1);
            (code.startsWith("static ") ? helpers : calls).append(code).append('\n');
        }
    }

    private void eachCallIsShown() {
        for (Method method : ClickBench.class.getDeclaredMethods()) {
            if (Modifier.isPublic(method.getModifiers())) {
                boolean shown = (helpers.toString() + calls).contains("bench." + method.getName() + "(");
                check.due("README.md shows " + method.getName(), shown, true);
            }
        }
    }

    /** Each line with an answer becomes one that puts the call's own answer behind those of the others. */
    private void eachAnswerIsAsSaid() throws IOException, ReflectiveOperationException {
        List<String> shown = new ArrayList<>();
        List<String> said = new ArrayList<>();
        Matcher line = SHOWN.matcher(calls);
        StringBuilder body = new StringBuilder();
        while (line.find()) {
            shown.add(line.group(1));
            said.add(line.group(2));
            line.appendReplacement(body, Matcher.quoteReplacement("answers.add(" + line.group(1) + ");"));
        }
        line.appendTail(body);
        String bare = body.toString().replaceAll("answers\\.add\\(.*\\);|ClickBench bench = new ClickBench\\(\\);", "");
        check.due("lines without an answer: " + bare.trim(), bare.isBlank(), true);
        List<Object> answers = answersOf("public final class Shown {\n" + helpers
                + "public static void all(java.util.List<Object> answers) {\n" + body + "}\n}\n");
        check.due("lines that answered", answers.size(), said.size());
        for (int k = 0; k < answers.size(); k++) {
            String answer = String.valueOf(answers.get(k));
            check.due(shown.get(k) + " answered " + answer + ", said " + said.get(k), answer.equals(said.get(k)), true);
        }
    }

    private List<Object> answersOf(String source) throws IOException, ReflectiveOperationException {
        List<Object> answers = new ArrayList<>();
        Path work = Files.createTempDirectory("shown");
        Path file = Files.writeString(work.resolve("Shown.java"), source);
        String path = System.getProperty("java.class.path");
        int compiled = ToolProvider.getSystemJavaCompiler().run(null, null, null, "-cp", path, "-d", work.toString(),
                file.toString());
        check.due("what README.md shows compiles", compiled, 0);
        if (compiled == 0) {
            try (URLClassLoader loader = new URLClassLoader(new URL[] {work.toUri().toURL()})) {
                loader.loadClass("Shown").getMethod("all", List.class).invoke(null, answers);
            }
        }
        Files.deleteIfExists(work.resolve("Shown.class"));
        Files.delete(file);
        Files.delete(work);
        return answers;
    }

    private void eachTestIsNamed() throws IOException {
        try (DirectoryStream<Path> files = Files.newDirectoryStream(Path.of("src/test/java"), "*Test.java")) {
            for (Path file : files) {
                String name = file.getFileName().toString().replace(".java", "");
                boolean named = name.startsWith("Promise") || readme.contains("| " + name + " |");
                check.due("README.md names " + name, named, true);
            }
        }
        check.due("README.md tells how to run the tests", readme.contains("\n    .ci/run\n"), true);
    }
}
