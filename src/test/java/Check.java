import java.nio.charset.StandardCharsets;

/** What all tests share: counting wrong answers, making pages, and answers that many calls ask for. */
final class Check {
    static final int NONE = -1;
    static final int MIN = Integer.MIN_VALUE;
    static final int MAX = Integer.MAX_VALUE;
    /** Numbers that are no shelf. */
    static final int[] NO_SHELVES = {-1, 4, 5, MIN, MAX};

    private String test = "";
    private int tests = 0;
    private int askedBefore = 0;
    private int wrong = 0;
    private int asked = 0;

    void begin(String name) {
        tests++;
        test = name + ": ";
        askedBefore = asked;
    }

    /** A test that asks for nothing would pass whatever the class did. */
    void end() {
        due("answers asked for", asked > askedBefore, true);
        test = "";
    }

    void due(String call, long got, long want) {
        asked++;
        if (got != want) {
            wrong++;
            System.out.println(test + call + " answered " + got + ", due is " + want);
        }
    }

    void due(String call, boolean got, boolean want) {
        due(call, got ? 1 : 0, want ? 1 : 0);
    }

    /** Ends the program: with exit code 1 if an answer was wrong, or none was asked for. */
    void finish() {
        String count = tests == 0 ? "" : tests + " tests, ";
        System.out.println("  " + count + asked + " answers, " + wrong + " wrong");
        if (wrong != 0 || asked == 0) {
            System.exit(1);
        }
    }

    /** Feeds a text of bytes 0 to 255 and cuts what the last feed had too much. */
    static void feed(ClickBench x, String text) {
        byte[] bytes = text.getBytes(StandardCharsets.ISO_8859_1);
        for (int at = 0; at < bytes.length; at += 20) {
            int[] n = new int[5];
            for (int k = 0; k < 20; k++) {
                int sign = at + k < bytes.length ? bytes[at + k] & 255 : 32;
                n[k / 4] = n[k / 4] << 8 | sign;
            }
            x.feed(n[0], n[1], n[2], n[3], n[4]);
        }
        x.end(bytes.length);
    }

    static int page(ClickBench x, int shelf, String text) {
        feed(x, text);
        return x.page(shelf);
    }

    /** A new object with these pages on its shelves, from 0 on. */
    static ClickBench with(String... texts) {
        ClickBench x = new ClickBench();
        for (int shelf = 0; shelf < texts.length; shelf++) {
            if (page(x, shelf, texts[shelf]) < 1) {
                throw new IllegalStateException("no page: " + texts[shelf]);
            }
        }
        return x;
    }

    /** So many parts within one another. */
    static String deep(int parts) {
        return "a(".repeat(parts - 1) + "a" + ")".repeat(parts - 1);
    }

    /** A page of so many parts, all but the first one beside one another. */
    static String wide(int parts) {
        return "p(" + "a ".repeat(parts - 1) + ")";
    }

    /** The page of a text that has no fault. */
    void right(String text, int parts) {
        ClickBench x = new ClickBench();
        due("page of <" + text + ">", page(x, 1, text), parts);
        due("fault(0) of <" + text + ">", x.fault(0), 0);
        due("fault(1) of <" + text + ">", x.fault(1), NONE);
    }

    void fault(String text, int kind, int place) {
        ClickBench x = new ClickBench();
        due("page of <" + text + ">", page(x, 1, text), NONE);
        due("fault(0) of <" + text + ">", x.fault(0), kind);
        due("fault(1) of <" + text + ">", x.fault(1), place);
        due("shelf after <" + text + ">", x.about(11), 0);
    }

    void found(ClickBench x, int best, int next, int bestCost, int nextCost) {
        due("found(0)", x.found(0), best);
        due("found(1)", x.found(1), next);
        due("found(2)", x.found(2), bestCost);
        due("found(3)", x.found(3), nextCost);
    }

    void ran(ClickBench x, int why, int where, int clicks, int reads) {
        due("ran(0)", x.ran(0), why);
        due("ran(1)", x.ran(1), where);
        due("ran(2)", x.ran(2), clicks);
        due("ran(3)", x.ran(3), reads);
    }

    void read(ClickBench x, int j, String text) {
        for (int k = 0; k < text.length(); k++) {
            due("read(" + j + ", " + k + ")", x.read(j, k), text.charAt(k));
        }
        due("read(" + j + ", " + text.length() + ")", x.read(j, text.length()), NONE);
    }

    void clicks(ClickBench x, int shelf, int... clicks) {
        for (int part = 0; part < clicks.length; part++) {
            due("clicks on " + part, x.part(shelf, part, 8), clicks[part]);
        }
    }

    /** A call that must do nothing: the counts that about() tells are as before. */
    void same(ClickBench x, int... counts) {
        for (int what = 0; what < counts.length; what++) {
            due("about(" + what + ")", x.about(what), counts[what]);
        }
    }
}
