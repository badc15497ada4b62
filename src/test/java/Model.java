import java.util.ArrayList;
import java.util.HashMap;
import java.util.HashSet;
import java.util.List;
import java.util.Map;
import java.util.Objects;
import java.util.Set;

/**
 * The document read a second time, as plainly as the Java library lets one say it and without a
 * thought of speed: texts are Strings, a page is tokens first and a recursive descent then, FAR is a
 * recursion over lists of trees, LEARNT tries all sets. ModelTest holds the class against it.
 */
final class Model {
    static final class Node {
        int number;
        String kind;
        String name;
        String text;
        boolean harm;
        int clicks;
        Node parent;
        final List<Node> children = new ArrayList<>();
        List<Node> page;

        int place() {
            return parent == null ? 0 : parent.children.indexOf(this);
        }

        Node beside(int step) {
            int at = place() + step;
            return parent == null || at < 0 || at >= parent.children.size() ? null : parent.children.get(at);
        }

        int turn() {
            int turn = 0;
            for (int i = 0; parent != null && i < place(); i++) {
                turn += parent.children.get(i).kind.equals(kind) ? 1 : 0;
            }
            return turn;
        }

        Node label() {
            Node last = null;
            for (Node one : page.subList(0, number)) {
                if (one.kind.equals("label") && one.text != null && !one.text.isEmpty()) {
                    last = one;
                }
            }
            return last;
        }

        List<String> path() {
            List<String> path = parent == null ? new ArrayList<>() : parent.path();
            path.add(kind);
            path.add("" + turn());
            return path;
        }

        int under() {
            int under = 0;
            for (Node child : children) {
                under += 1 + child.under();
            }
            return under;
        }

        boolean harmful() {
            return harm || (parent != null && parent.harmful());
        }

        List<Object> marks(int marks) {
            Node label = label();
            Object[] all = {name, text, kind, turn(), parent == null ? null : parent.kind,
                parent == null ? null : parent.name, label == null ? null : label.text, path()};
            List<Object> chosen = new ArrayList<>();
            for (int bit = 0; bit < 8; bit++) {
                if ((marks >> bit & 1) == 1) {
                    chosen.add(all[bit]);
                }
            }
            return chosen;
        }
    }

    record Token(String what, int place) { }

    record Told(boolean click, Node part, List<String> path, int level, int first, int step) { }

    private final StringBuilder tape = new StringBuilder();
    private final List<List<Node>> shelves = new ArrayList<>();
    private int gap = 1;
    private int faultKind = 0;
    private int faultPlace = -1;
    private int[] found = {-1, -1, -1, -1};
    private final List<Node> samples = new ArrayList<>();
    private final List<Told> acts = new ArrayList<>();
    private int[] ran = {-1, -1, -1, -1};
    private List<String> reads = new ArrayList<>();

    private List<Token> tokens;
    private int at;
    private List<Node> growing;

    Model() {
        for (int shelf = 0; shelf < 4; shelf++) {
            shelves.add(null);
        }
    }

    int feed(int a, int b, int c, int d, int e) {
        if (tape.length() + 20 > 1600) {
            return -1;
        }
        for (int number : new int[] {a, b, c, d, e}) {
            for (int k = 3; k >= 0; k--) {
                tape.append((char) (number >>> 8 * k & 255));
            }
        }
        return tape.length();
    }

    int end(int n) {
        if (n < 0 || n > tape.length()) {
            return -1;
        }
        tape.setLength(n);
        return n;
    }

    private static final class Fault extends Exception {
        private static final long serialVersionUID = 1L;
        final int kind;
        final int place;

        Fault(int kind, int place) {
            this.kind = kind;
            this.place = place;
        }
    }

    int page(int shelf) {
        if (shelf < 0 || shelf > 3) {
            return -2;
        }
        String text = tape.toString();
        tape.setLength(0);
        faultKind = 0;
        faultPlace = -1;
        try {
            tokens = tokensOf(text);
            at = 0;
            growing = new ArrayList<>();
            readPart(null, 1);
            if (!peek().what.equals("end")) {
                throw bad();
            }
            shelves.set(shelf, growing);
            return growing.size();
        } catch (Fault fault) {
            faultKind = fault.kind;
            faultPlace = fault.place;
            return -1;
        }
    }

    private static List<Token> tokensOf(String text) {
        List<Token> tokens = new ArrayList<>();
        java.util.regex.Matcher token = java.util.regex.Pattern
                .compile("[a-z]{1,8}|\"[ !#-~]{0,16}\"|[#!()]").matcher(text);
        int place = 0;
        while (true) {
            while (place < text.length() && (text.charAt(place) == 32 || text.charAt(place) == 10)) {
                place++;
            }
            if (place >= text.length()) {
                tokens.add(new Token("end", text.length()));
                return tokens;
            }
            token.region(place, text.length());
            if (!token.lookingAt()) {
                tokens.add(new Token("?", place));
                return tokens;
            }
            tokens.add(new Token(token.group().matches("[a-z]+") ? "w" + token.group() : token.group(), place));
            place = token.end();
        }
    }

    private Token peek() {
        return tokens.get(at);
    }

    private Fault bad() {
        return new Fault(peek().what.equals("?") ? 1 : 2, peek().place);
    }

    private String word() throws Fault {
        if (!peek().what.startsWith("w")) {
            throw bad();
        }
        return tokens.get(at++).what.substring(1);
    }

    private boolean take(String what) {
        if (peek().what.equals(what)) {
            at++;
            return true;
        }
        return false;
    }

    private void readPart(Node parent, int depth) throws Fault {
        if (peek().what.startsWith("w") && (growing.size() == 60 || depth > 12)) {
            throw bad();
        }
        Node fresh = new Node();
        fresh.kind = word();
        fresh.parent = parent;
        fresh.number = growing.size();
        fresh.page = growing;
        growing.add(fresh);
        if (parent != null) {
            parent.children.add(fresh);
        }
        fresh.name = take("#") ? word() : null;
        if (peek().what.startsWith("\"")) {
            String quoted = tokens.get(at++).what;
            fresh.text = quoted.substring(1, quoted.length() - 1);
        }
        fresh.harm = take("!");
        if (take("(")) {
            do {
                readPart(fresh, depth + 1);
            } while (!take(")"));
        }
    }

    int fault(int what) {
        return what == 0 ? faultKind : what == 1 ? faultPlace : -1;
    }

    private List<Node> pageOn(int shelf) {
        return shelf < 0 || shelf > 3 ? null : shelves.get(shelf);
    }

    private Node node(int shelf, int part) {
        List<Node> page = pageOn(shelf);
        return page == null || part < 0 || part >= page.size() ? null : page.get(part);
    }

    private static int number(Node node) {
        return node == null ? -1 : node.number;
    }

    int part(int shelf, int part, int what) {
        Node one = node(shelf, part);
        if (one == null || what < 0 || what > 9) {
            return -1;
        }
        return new int[] {number(one.parent), number(one.beside(-1)), number(one.beside(1)), one.turn(),
            number(one.label()), one.path().size() / 2 - 1, one.harm ? 1 : 0,
            one.text == null ? -1 : one.text.length(), one.clicks, one.under()}[what];
    }

    int text(int shelf, int part, int what, int k) {
        Node one = node(shelf, part);
        if (one == null || what < 0 || what > 2) {
            return -1;
        }
        return byteOf(new String[] {one.kind, one.name, one.text}[what], k);
    }

    private static int byteOf(String text, int k) {
        return text == null || k < 0 || k >= text.length() ? -1 : text.charAt(k);
    }

    private static int change(Node a, Node b) {
        return (a.kind.equals(b.kind) ? 0 : 4) + (Objects.equals(a.name, b.name) ? 0 : 2)
                + (Objects.equals(a.text, b.text) ? 0 : 1);
    }

    private static int around(Node a, Node b) {
        return a == null && b == null ? 0 : a == null || b == null ? 3 : change(a, b);
    }

    private final Map<List<Node>, Map<List<Node>, Integer>> fars = new HashMap<>();

    /** The first tree's root of one side goes, or both first roots are changed into one another. */
    private int far(List<Node> a, List<Node> b) {
        if (a.isEmpty() && b.isEmpty()) {
            return 0;
        }
        Map<List<Node>, Integer> known = fars.computeIfAbsent(a, key -> new HashMap<>());
        Integer before = known.get(b);
        if (before != null) {
            return before;
        }
        int least = Integer.MAX_VALUE;
        if (!a.isEmpty()) {
            least = Math.min(least, 3 + far(opened(a), b));
        }
        if (!b.isEmpty()) {
            least = Math.min(least, 3 + far(a, opened(b)));
        }
        if (!a.isEmpty() && !b.isEmpty()) {
            least = Math.min(least, change(a.get(0), b.get(0)) + far(a.get(0).children, b.get(0).children)
                    + far(a.subList(1, a.size()), b.subList(1, b.size())));
        }
        known.put(b, least);
        return least;
    }

    private static List<Node> opened(List<Node> trees) {
        List<Node> opened = new ArrayList<>(trees.get(0).children);
        opened.addAll(trees.subList(1, trees.size()));
        return opened;
    }

    int far(int shelf, int part, int other, int otherPart) {
        Node a = node(shelf, part);
        Node b = node(other, otherPart);
        return a == null || b == null ? -1 : far(List.of(a), List.of(b));
    }

    private int cost(Node a, Node b) {
        return 3 * far(List.of(a), List.of(b)) + around(a.parent, b.parent)
                + around(a.beside(-1), b.beside(-1)) + around(a.beside(1), b.beside(1));
    }

    int cost(int shelf, int part, int other, int otherPart) {
        Node a = node(shelf, part);
        Node b = node(other, otherPart);
        return a == null || b == null ? -1 : cost(a, b);
    }

    boolean gap(int n) {
        if (n < 0 || n > 100) {
            return false;
        }
        gap = n;
        return true;
    }

    /** How it went, and then what found() tells: -2 alone if it is missing. */
    private int[] look(Node a, List<Node> page) {
        List<Node> like = new ArrayList<>();
        for (Node one : page) {
            if (one.kind.equals(a.kind)) {
                like.add(one);
            }
        }
        if (like.isEmpty()) {
            return new int[] {-2};
        }
        like.sort((x, y) -> cost(a, x) != cost(a, y) ? cost(a, x) - cost(a, y) : x.number - y.number);
        Node best = like.get(0);
        if (like.size() == 1) {
            return new int[] {1, best.number, -1, cost(a, best), -1};
        }
        Node next = like.get(1);
        int sure = cost(a, next) - cost(a, best) >= gap ? 1 : 0;
        return new int[] {sure, best.number, next.number, cost(a, best), cost(a, next)};
    }

    int find(int shelf, int part, int other) {
        Node a = node(shelf, part);
        List<Node> page = pageOn(other);
        if (a == null || page == null) {
            return -1;
        }
        int[] how = look(a, page);
        if (how[0] != -2) {
            found = new int[] {how[1], how[2], how[3], how[4]};
        }
        return how[0];
    }

    int found(int what) {
        return what < 0 || what > 3 ? -1 : found[what];
    }

    private static List<Node> fitting(Node a, int marks, List<Node> page) {
        List<Node> fitting = new ArrayList<>();
        for (Node one : page) {
            if (one.marks(marks).equals(a.marks(marks))) {
                fitting.add(one);
            }
        }
        return fitting;
    }

    int fits(int shelf, int part, int marks, int other) {
        Node a = node(shelf, part);
        List<Node> page = pageOn(other);
        return a == null || page == null || marks < 1 || marks > 255 ? -1 : fitting(a, marks, page).size();
    }

    int fit(int shelf, int part, int marks, int other, int k) {
        int count = fits(shelf, part, marks, other);
        return k < 0 || k >= count ? -1 : fitting(node(shelf, part), marks, pageOn(other)).get(k).number;
    }

    int sample(int shelf, int part) {
        Node one = node(shelf, part);
        if (one == null || samples.size() == 6) {
            return -1;
        }
        samples.add(one);
        return samples.size();
    }

    int forget() {
        int before = samples.size();
        samples.clear();
        return before;
    }

    int stays() {
        int stays = 0;
        for (int mark = 1; mark < 256 && !samples.isEmpty(); mark *= 2) {
            Set<List<Object>> values = new HashSet<>();
            for (Node one : samples) {
                values.add(one.marks(mark));
            }
            stays += values.size() == 1 ? mark : 0;
        }
        return stays;
    }

    int learnt() {
        int stays = stays();
        for (int size = 1; size <= 8; size++) {
            for (int marks = 1; marks < 256; marks++) {
                if (Integer.bitCount(marks) == size && (marks & ~stays) == 0 && tellsAll(marks)) {
                    return marks;
                }
            }
        }
        return -1;
    }

    private boolean tellsAll(int marks) {
        for (Node one : samples) {
            if (fitting(one, marks, one.page).size() != 1) {
                return false;
            }
        }
        return !samples.isEmpty();
    }

    int seen(int shelf) {
        List<Node> page = pageOn(shelf);
        int marks = learnt();
        if (page == null || marks == -1) {
            return -1;
        }
        List<Node> fitting = fitting(samples.get(0), marks, page);
        return fitting.isEmpty() ? -3 : fitting.size() > 1 ? -2 : fitting.get(0).number;
    }

    private Told loopOf(boolean click, int shelf, int a, int b) {
        Node one = node(shelf, a);
        Node other = node(shelf, b);
        if (one == null || other == null) {
            return null;
        }
        List<String> path = one.path();
        List<String> otherPath = other.path();
        if (path.size() != otherPath.size()) {
            return null;
        }
        int level = -1;
        for (int k = 0; k < path.size(); k++) {
            if (!path.get(k).equals(otherPath.get(k))) {
                if (k % 2 == 0 || level >= 0) {
                    return null;
                }
                level = k;
            }
        }
        if (level < 0) {
            return null;
        }
        int i = Integer.parseInt(path.get(level));
        int j = Integer.parseInt(otherPath.get(level));
        return new Told(click, null, path, level, Math.min(i, j), Math.abs(i - j));
    }

    private static List<Node> rowsOf(Told loop, List<Node> page) {
        List<Node> rows = new ArrayList<>();
        while (true) {
            List<String> path = new ArrayList<>(loop.path);
            path.set(loop.level, "" + (loop.first + rows.size() * loop.step));
            Node there = null;
            for (Node one : page) {
                there = one.path().equals(path) ? one : there;
            }
            if (there == null) {
                return rows;
            }
            rows.add(there);
        }
    }

    int rows(int shelf, int a, int b, int other) {
        Told loop = loopOf(true, shelf, a, b);
        List<Node> page = pageOn(other);
        return loop == null || page == null ? -1 : rowsOf(loop, page).size();
    }

    int row(int shelf, int a, int b, int other, int k) {
        int count = rows(shelf, a, b, other);
        return k < 0 || k >= count ? -1 : rowsOf(loopOf(true, shelf, a, b), pageOn(other)).get(k).number;
    }

    private int tell(Told told) {
        if (acts.size() == 20) {
            return -1;
        }
        acts.add(told);
        return acts.size();
    }

    int act(boolean click, int shelf, int part) {
        Node one = node(shelf, part);
        return one == null ? -1 : tell(new Told(click, one, null, 0, 0, 0));
    }

    int loop(boolean click, int shelf, int a, int b) {
        Told loop = loopOf(click, shelf, a, b);
        return loop == null ? -1 : tell(loop);
    }

    int clear() {
        int before = acts.size();
        acts.clear();
        return before;
    }

    int run(int shelf) {
        List<Node> page = pageOn(shelf);
        if (page == null) {
            return -1;
        }
        ran = new int[] {0, -1, 0, 0};
        reads = new ArrayList<>();
        Set<Integer> clicked = new HashSet<>();
        int done = 0;
        for (Told told : acts) {
            List<Node> rows;
            if (told.part == null) {
                rows = rowsOf(told, page);
            } else {
                int[] how = look(told.part, page);
                if (how[0] != 1) {
                    ran[0] = how[0] == 0 ? 1 : 2;
                    ran[1] = how[0] == 0 ? how[1] : -1;
                    return done;
                }
                rows = List.of(page.get(how[1]));
            }
            for (Node one : rows) {
                if (!told.click) {
                    ran[3]++;
                    if (reads.size() < 40) {
                        reads.add(one.text == null ? "" : one.text);
                    }
                } else if (one.harmful()) {
                    ran[0] = 3;
                    ran[1] = one.number;
                    return done;
                } else if (clicked.add(one.number)) {
                    one.clicks++;
                    ran[2]++;
                }
            }
            done++;
        }
        return done;
    }

    int ran(int what) {
        return what < 0 || what > 3 ? -1 : ran[what];
    }

    int read(int j, int k) {
        return j < 0 || j >= reads.size() ? -1 : byteOf(reads.get(j), k);
    }

    int about(int what) {
        if (what >= 10 && what <= 13) {
            return pageOn(what - 10) == null ? 0 : pageOn(what - 10).size();
        }
        return what < 0 || what > 3 ? -1 : new int[] {gap, samples.size(), acts.size(), tape.length()}[what];
    }
}
