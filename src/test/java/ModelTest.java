import java.util.Random;

/** All promises at once: long runs of calls by lot, the class held against the plain Model. */
final class ModelTest {
    private static final int CALLS = 512;
    private static final int RUNS = 400;

    private final Check check;
    private final Random lot;
    private final ClickBench x = new ClickBench();
    private final Model m = new Model();
    private final int run;
    private final int mostParts;
    private final int mostDepth;
    private final String[] kinds;
    private final String[] texts;
    private int calls = 0;
    private String latest = null;

    private ModelTest(Check check, int run) {
        this.check = check;
        this.run = run;
        lot = new Random(run);
        // Some runs have pages up to the limits, most have small ones in which parts are much alike.
        mostParts = run % 20 == 0 ? 60 : 4 + lot.nextInt(20);
        mostDepth = run % 20 == 0 ? 12 : 2 + lot.nextInt(5);
        kinds = run % 3 == 0 ? new String[] {"a", "b"} : new String[] {"row", "label", "link", "b", "abcdefgh"};
        texts = run % 5 == 2 ? new String[] {"0123456789ABCDEF", "0123456789ABCDEG", "12345678", "123456789", "~"}
                : new String[] {"xy", "y", ""};
    }

    public static void main(String[] args) {
        Check check = new Check();
        for (int run = 0; run < RUNS; run++) {
            new ModelTest(check, run).go();
        }
        check.finish();
    }

    private void go() {
        for (int shelf = 0; shelf < 2; shelf++) {
            makePage(shelf, someText());
        }
        while (calls < CALLS) {
            oneCall();
        }
    }

    private void due(String call, long got, long want) {
        calls++;
        check.due("run " + run + " call " + calls + " " + call, got, want);
    }

    private void makePage(int shelf, String text) {
        for (int at = 0; at < text.length(); at += 20) {
            int[] n = new int[5];
            for (int k = 0; k < 20; k++) {
                n[k / 4] = n[k / 4] << 8 | (at + k < text.length() ? text.charAt(at + k) & 255 : 32);
            }
            due("feed", x.feed(n[0], n[1], n[2], n[3], n[4]), m.feed(n[0], n[1], n[2], n[3], n[4]));
        }
        due("end", x.end(text.length()), m.end(text.length()));
        due("page(" + shelf + ") of <" + text + ">", x.page(shelf), m.page(shelf));
        due("fault(0) of <" + text + ">", x.fault(0), m.fault(0));
        due("fault(1) of <" + text + ">", x.fault(1), m.fault(1));
    }

    private String someText() {
        if (latest != null && lot.nextInt(3) > 0) {
            return changed(latest);
        }
        StringBuilder text = new StringBuilder();
        if (run % 4 == 1) {
            list(text);
        } else {
            grow(text, 1 + lot.nextInt(mostParts), 1);
        }
        latest = text.toString();
        return latest;
    }

    /** A page as a loop wants it: rows that are alike, a few of them with a part too many or too few. */
    private void list(StringBuilder text) {
        text.append("page(label\"k\" list(");
        for (int rows = 2 + lot.nextInt(7); rows > 0; rows--) {
            text.append(lot.nextInt(12) == 0 ? "row!(" : "row(");
            text.append("link\"").append((char) ('a' + lot.nextInt(4))).append("\" ");
            text.append(lot.nextInt(6) == 0 ? "link" : lot.nextInt(8) == 0 ? "label\"x\" b#p" : "b");
            text.append(") ");
        }
        text.append("))");
    }

    /** A page with so many parts; returns nothing, since limits may cut it anywhere. */
    private void grow(StringBuilder text, int parts, int depth) {
        text.append(kinds[lot.nextInt(kinds.length)]);
        if (lot.nextInt(4) == 0) {
            text.append('#').append((char) ('p' + lot.nextInt(2)));
        }
        if (lot.nextInt(2) == 0) {
            text.append('"').append(texts[lot.nextInt(texts.length)]).append('"');
        }
        if (lot.nextInt(25) == 0) {
            text.append('!');
        }
        int left = parts - 1;
        if (left > 0 && depth < mostDepth) {
            text.append('(');
            while (left > 0) {
                int share = 1 + lot.nextInt(Math.min(left, depth < 2 ? left : 6));
                grow(text, share, depth + 1);
                text.append(' ');
                left -= share;
            }
            text.append(')');
        }
    }

    private String changed(String text) {
        StringBuilder changed = new StringBuilder(text);
        for (int times = lot.nextInt(3); times >= 0; times--) {
            int at = lot.nextInt(changed.length() + 1);
            String signs = "ab#\"!()x \n?z";
            char sign = signs.charAt(lot.nextInt(signs.length()));
            switch (lot.nextInt(4)) {
                case 0 -> changed.insert(at, sign);
                case 1 -> changed.insert(at, " label\"k\" ");
                case 2 -> changed.insert(at, " b ");
                default -> changed.setLength(Math.max(changed.length() - lot.nextInt(2), 1));
            }
        }
        return changed.length() > 1600 ? text : changed.toString();
    }

    /** Seldom a number far outside of all that can be, else the one given. */
    private int orWild(int number) {
        int[] wild = {Integer.MIN_VALUE, Integer.MIN_VALUE + 1, -61, 60, 61, 256, 1600, 1 << 30, Integer.MAX_VALUE};
        return lot.nextInt(60) == 0 ? wild[lot.nextInt(wild.length)] : number;
    }

    private int shelf() {
        return orWild(lot.nextInt(12) == 0 ? lot.nextInt(6) - 1 : lot.nextInt(lot.nextInt(10) == 0 ? 4 : 2));
    }

    private int part(int shelf) {
        int parts = Math.max(1, m.about(10 + shelf));
        return orWild(lot.nextInt(15) == 0 ? lot.nextInt(parts + 3) - 1 : lot.nextInt(parts));
    }

    private int marks() {
        int marks = lot.nextInt(20) == 0 ? lot.nextInt(300) - 20 : 1 + lot.nextInt(255);
        return orWild(lot.nextInt(3) == 0 ? 1 << lot.nextInt(8) : marks);
    }

    private int small(int most) {
        return orWild(lot.nextInt(most + 2) - 1);
    }

    private void oneCall() {
        int shelf = shelf();
        int other = shelf();
        int a = part(shelf);
        int b = part(other);
        int c = part(shelf);
        int k = small(4);
        boolean click = lot.nextBoolean();
        switch (lot.nextInt(27)) {
            case 0 -> partCall(shelf, a, small(9));
            case 1 -> textCall(shelf, a, small(3), small(17));
            case 2, 3 -> due("far(" + shelf + "," + a + "," + other + "," + b + ")",
                    x.far(shelf, a, other, b), m.far(shelf, a, other, b));
            case 4, 5 -> due("cost", x.cost(shelf, a, other, b), m.cost(shelf, a, other, b));
            case 6 -> gap();
            case 7, 8, 9 -> found(shelf, a, other);
            case 10, 11, 12 -> fits(shelf, a, marks(), other);
            case 13 -> due("sample", x.sample(shelf, a), m.sample(shelf, a));
            case 14 -> learn(shelf);
            case 15, 16 -> due("rows(" + shelf + "," + a + "," + c + "," + other + ")",
                    x.rows(shelf, a, c, other), m.rows(shelf, a, c, other));
            case 17 -> due("row", x.row(shelf, a, c, other, k), m.row(shelf, a, c, other, k));
            case 18, 19 -> due("act", x.act(click, shelf, a), m.act(click, shelf, a));
            case 20, 21 -> loops(click, shelf, a);
            case 22, 23, 24 -> runs(shelf);
            case 25 -> due("about", x.about(k * 4), m.about(k * 4));
            default -> rare(shelf);
        }
    }

    private void textCall(int shelf, int a, int what, int k) {
        String call = "text(" + shelf + "," + a + "," + what + "," + k + ")";
        due(call, x.text(shelf, a, what, k), m.text(shelf, a, what, k));
    }

    private void partCall(int shelf, int a, int what) {
        due("part(" + shelf + "," + a + "," + what + ")", x.part(shelf, a, what), m.part(shelf, a, what));
    }

    private void gap() {
        int gap = lot.nextInt(5) == 0 ? lot.nextInt(140) - 20 : lot.nextInt(6);
        due("gap", x.gap(gap) ? 1 : 0, m.gap(gap) ? 1 : 0);
        due("about(0)", x.about(0), m.about(0));
    }

    private void found(int shelf, int a, int other) {
        due("find(" + shelf + "," + a + "," + other + ")", x.find(shelf, a, other), m.find(shelf, a, other));
        for (int what = -1; what <= 4; what++) {
            due("found(" + what + ")", x.found(what), m.found(what));
        }
    }

    private void fits(int shelf, int a, int marks, int other) {
        int count = m.fits(shelf, a, marks, other);
        due("fits(" + shelf + "," + a + "," + marks + "," + other + ")", x.fits(shelf, a, marks, other), count);
        int k = small(Math.max(count, 0));
        due("fit", x.fit(shelf, a, marks, other, k), m.fit(shelf, a, marks, other, k));
    }

    private void learn(int shelf) {
        due("stays", x.stays(), m.stays());
        due("learnt", x.learnt(), m.learnt());
        due("seen", x.seen(shelf), m.seen(shelf));
        if (lot.nextInt(3) == 0) {
            due("forget", x.forget(), m.forget());
        }
    }

    /** Two parts by lot seldom make a loop, so one is looked for. */
    private void loops(boolean click, int shelf, int a) {
        int b = part(shelf);
        for (int tries = 0; tries < 60 && m.rows(shelf, a, b, shelf) < 0; tries++) {
            b = part(shelf);
        }
        due("rows", x.rows(shelf, a, b, 1), m.rows(shelf, a, b, 1));
        due("row", x.row(shelf, a, b, 1, 1), m.row(shelf, a, b, 1, 1));
        due("loop", x.loop(click, shelf, a, b), m.loop(click, shelf, a, b));
    }

    private void runs(int shelf) {
        due("run(" + shelf + ")", x.run(shelf), m.run(shelf));
        for (int what = -1; what <= 4; what++) {
            due("ran(" + what + ")", x.ran(what), m.ran(what));
        }
        int j = small(Math.min(45, Math.max(m.ran(3), 1)));
        int k = small(lot.nextInt(4) == 0 ? 17 : 2);
        due("read(" + j + "," + k + ")", x.read(j, k), m.read(j, k));
        for (int part = 0; part < 3; part++) {
            due("clicks", x.part(shelf, part, 8), m.part(shelf, part, 8));
        }
    }

    private void rare(int shelf) {
        int number = orWild(lot.nextInt());
        if (lot.nextInt(3) == 0) {
            due("clear", x.clear(), m.clear());
        } else if (lot.nextInt(3) == 0) {
            due("feed", x.feed(number, number, 0, shelf, -1), m.feed(number, number, 0, shelf, -1));
            due("end", x.end(number), m.end(number));
            due("about(3)", x.about(3), m.about(3));
            due("page", x.page(shelf), m.page(shelf));
            due("fault", x.fault(number & 1), m.fault(number & 1));
            due("end(0)", x.end(0), m.end(0));
        } else {
            makePage(shelf, someText());
        }
    }
}
