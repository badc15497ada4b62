import java.io.IOException;
import java.lang.management.ManagementFactory;
import java.lang.reflect.Constructor;
import java.lang.reflect.Field;
import java.lang.reflect.Method;
import java.lang.reflect.Modifier;
import java.nio.file.Files;
import java.nio.file.Path;
import java.util.HashSet;
import java.util.List;
import java.util.Set;
import java.util.TreeSet;
import java.util.regex.Matcher;
import java.util.regex.Pattern;

/** The public face, the rules of LANGUAGE.md that a text or a mirror can see, and the room a run takes. */
final class FaceTest {
    private static final Check check = new Check();

    private static final String[] FACE = {
        "int about(int)", "int act(boolean,int,int)", "int clear()", "int cost(int,int,int,int)", "int end(int)",
        "int far(int,int,int,int)", "int fault(int)", "int feed(int,int,int,int,int)", "int find(int,int,int)",
        "int fit(int,int,int,int,int)", "int fits(int,int,int,int)", "int forget()", "int found(int)",
        "boolean gap(int)", "int learnt()", "int loop(boolean,int,int,int)", "int page(int)",
        "int part(int,int,int)", "int ran(int)", "int read(int,int)", "int row(int,int,int,int,int)",
        "int rows(int,int,int,int)", "int run(int)", "int sample(int,int)", "int seen(int)", "int stays()",
        "int text(int,int,int,int)"};

    public static void main(String[] args) throws IOException {
        face();
        form(Files.readString(Path.of("src/main/java/ClickBench.java")));
        room();
        check.finish();
    }

    private static void face() {
        Class<?> face = ClickBench.class;
        check.due("public final", face.getModifiers(), Modifier.PUBLIC | Modifier.FINAL);
        Set<String> due = new TreeSet<>(List.of(FACE));
        Set<String> names = new HashSet<>();
        for (Method method : face.getDeclaredMethods()) {
            if (Modifier.isPrivate(method.getModifiers())) {
                continue;
            }
            names.add(method.getName());
            String shown = method.toString().replace("public ", "").replace("ClickBench.", "");
            check.due("in the face: " + shown, due.remove(shown), true);
        }
        check.due("missing: " + due, due.size(), 0);
        for (Field field : face.getDeclaredFields()) {
            boolean open = !Modifier.isPrivate(field.getModifiers());
            check.due("open field " + field, open, field.getName().equals("NONE"));
        }
        for (Constructor<?> constructor : face.getDeclaredConstructors()) {
            check.due("" + constructor, constructor.toString().equals("public ClickBench()"), true);
        }
        check.due("classes", face.getDeclaredClasses().length < 12, true);
        for (Class<?> inside : face.getDeclaredClasses()) {
            check.due("static " + inside, Modifier.isStatic(inside.getModifiers()), true);
            check.due("closed " + inside, inside.getModifiers() & (Modifier.PUBLIC | Modifier.PROTECTED), 0);
            int fields = 0;
            for (Field field : inside.getDeclaredFields()) {
                fields += Modifier.isStatic(field.getModifiers()) ? 0 : 1;
            }
            check.due("fields of " + inside, fields <= 20, true);
            for (Method method : inside.getDeclaredMethods()) {
                check.due("a name of the face: " + method, names.contains(method.getName()), false);
            }
        }
    }

    private static void form(String source) {
        String code = source.replaceAll("(?s)/\\*.*?\\*/", "").replaceAll("//[^\n]*", "");
        for (String word : new String[] {"throw", "throws", "try", "catch", "synchronized", "assert", "import",
            "package", "System", "Object", "Exception", "protected", "volatile", "native", "var", "hashCode"}) {
            Matcher there = Pattern.compile("\\b" + word + "\\b").matcher(code);
            check.due("the word " + word, there.find(), false);
        }
        check.due("lambda", code.contains("->"), false);
        check.due("method reference", code.contains("::"), false);
        Matcher changing = Pattern.compile("\\bstatic (?!final|int |long |boolean |Part |Loop )").matcher(code);
        check.due("static that is not final", changing.find(), false);
        int length = 0;
        for (String line : code.split("\n")) {
            boolean begins = line.matches(" {4,8}(public|private) .*\\(.*\\) \\{");
            length = begins ? 0 : length + 1;
            check.due("a method's length at: " + line, length <= 60 || !line.matches(" {4,8}\\}"), true);
            check.due("parameters: " + line, !begins || line.split(",").length <= 7, true);
        }
    }

    /** A run of 512 calls that makes what it can must stay far below the room's 7.3 million elements. */
    private static void room() {
        com.sun.management.ThreadMXBean bean = (com.sun.management.ThreadMXBean) ManagementFactory.getThreadMXBean();
        long before = bean.getCurrentThreadAllocatedBytes();
        ClickBench x = new ClickBench();
        int calls = 0;
        while (calls < 504) {
            x.feed(0x61286120, 0x61206120, 0x61206120, 0x61206120, 0x61206129);
            x.page(calls & 3);
            x.rows(0, 1, 2, 0);
            x.act(true, 0, 1);
            x.loop(true, 0, 1, 2);
            x.sample(0, 1);
            x.run(0);
            x.find(0, 1, calls & 3);
            calls += 8;
        }
        long bytes = bean.getCurrentThreadAllocatedBytes() - before;
        check.due("bytes of a run: " + bytes, bytes < 4_000_000, true);
    }
}
