/** Promises 22 to 27: act, loop, clear, run, ran and read. */
final class RunsTest {
    private static final Check check = new Check();

    public static void main(String[] args) {
        telling();
        looping();
        doneWholly();
        stopsAtDoubtful();
        stopsAtMissing();
        stopsAtHarm();
        stopsWithinALoop();
        clicksOnce();
        readsKept();
        asTold();
        latestRunStays();
        emptyRuns();
        check.finish();
    }

    private static void ran(ClickBench x, String when, int why, int where, int clicks, int reads) {
        check.due(when + ": ran(0)", x.ran(0), why);
        check.due(when + ": ran(1)", x.ran(1), where);
        check.due(when + ": ran(2)", x.ran(2), clicks);
        check.due(when + ": ran(3)", x.ran(3), reads);
        check.due(when + ": ran(4)", x.ran(4), -1);
        check.due(when + ": ran(-1)", x.ran(-1), -1);
    }

    private static void readDue(ClickBench x, int j, String due) {
        for (int k = 0; k < due.length(); k++) {
            check.due("read(" + j + ", " + k + ")", x.read(j, k), due.charAt(k));
        }
        check.due("read(" + j + ") behind", x.read(j, due.length()), -1);
        check.due("read(" + j + ", -1)", x.read(j, -1), -1);
    }

    private static void telling() {
        ClickBench x = Check.with("p(a a)");
        check.due("no part", x.act(true, 0, 3), -1);
        check.due("part -1", x.act(false, 0, -1), -1);
        check.due("no page", x.act(true, 1, 0), -1);
        check.due("no shelf", x.act(true, 4, 0), -1);
        check.due("none told", x.about(2), 0);
        for (int n = 1; n <= 19; n++) {
            check.due("act " + n, x.act(n % 2 == 0, 0, n % 3), n);
        }
        check.due("loop 20", x.loop(true, 0, 1, 2), 20);
        check.due("act 21", x.act(true, 0, 1), -1);
        check.due("loop 21", x.loop(true, 0, 1, 2), -1);
        check.due("20 told", x.about(2), 20);
        check.due("clear", x.clear(), 20);
        check.due("clear again", x.clear(), 0);
        check.due("none told", x.about(2), 0);
        check.due("the next", x.act(true, 0, 1), 1);
    }

    private static void looping() {
        ClickBench x = Check.with("p(a a b)");
        check.due("the same", x.loop(true, 0, 1, 1), -1);
        check.due("kinds", x.loop(true, 0, 1, 3), -1);
        check.due("depth", x.loop(true, 0, 0, 1), -1);
        check.due("no part", x.loop(true, 0, 1, 4), -1);
        check.due("no first part", x.loop(true, 0, -1, 1), -1);
        check.due("no page", x.loop(true, 1, 1, 2), -1);
        check.due("no shelf", x.loop(true, -1, 1, 2), -1);
        check.due("none told", x.about(2), 0);
        check.due("a loop", x.loop(true, 0, 2, 1), 1);
        check.due("another", x.loop(false, 0, 1, 2), 2);
        check.due("two told", x.about(2), 2);
    }

    private static void doneWholly() {
        ClickBench x = Check.with("p(a\"one\" b c\"\" d\"four\" d\"five\")");
        x.act(false, 0, 1);
        x.act(true, 0, 2);
        x.act(false, 0, 3);
        x.act(false, 0, 2);
        x.loop(false, 0, 4, 5);
        x.loop(true, 0, 4, 5);
        check.due("run", x.run(0), 6);
        ran(x, "whole", 0, -1, 3, 5);
        readDue(x, 0, "one");
        readDue(x, 1, "");
        readDue(x, 2, "");
        readDue(x, 3, "four");
        readDue(x, 4, "five");
        check.due("none behind", x.read(5, 0), -1);
        check.due("none ahead", x.read(-1, 0), -1);
        int[] clicks = {0, 0, 1, 0, 1, 1};
        for (int part = 0; part < clicks.length; part++) {
            check.due("clicks on " + part, x.part(0, part, 8), clicks[part]);
        }
        check.due("run again", x.run(0), 6);
        ran(x, "again", 0, -1, 3, 5);
        check.due("clicks are counted on", x.part(0, 2, 8), 2);
    }

    private static void stopsAtDoubtful() {
        ClickBench x = Check.with("p(b)", "q(a b b b b a)");
        x.act(false, 0, 0);
        Check.page(x, 0, "p(b b b)");
        x.clear();
        x.act(false, 0, 2);
        check.due("doubtful", x.run(1), 0);
        ran(x, "doubtful", 1, 3, 0, 0);
        check.due("GAP 0", x.gap(0), true);
        check.due("not doubtful", x.run(1), 1);
        ran(x, "GAP 0", 0, -1, 0, 1);
        x.gap(4);
        x.act(true, 0, 1);
        check.due("less than GAP", x.run(0), 0);
        ran(x, "GAP 4", 1, 2, 0, 0);
        x.gap(3);
        check.due("by GAP", x.run(0), 2);
        ran(x, "GAP 3", 0, -1, 1, 1);
    }

    private static void stopsAtMissing() {
        ClickBench x = Check.with("p(a b c)", "p(a c)");
        x.act(true, 0, 1);
        x.act(false, 0, 3);
        x.act(true, 0, 2);
        x.act(true, 0, 3);
        check.due("missing", x.run(1), 2);
        ran(x, "missing", 2, -1, 1, 1);
        check.due("what was done stays", x.part(1, 1, 8), 1);
        check.due("ahead of the rest", x.part(1, 2, 8), 0);
        check.due("nothing on the first page", x.part(0, 1, 8), 0);
    }

    private static void stopsAtHarm() {
        ClickBench x = Check.with("p(a\"t\"! b!(c(d)) e)");
        int[][] due = {{1, 1}, {2, 2}, {3, 3}, {4, 4}};
        for (int[] row : due) {
            x.clear();
            x.act(true, 0, 5);
            x.act(false, 0, row[0]);
            x.act(true, 0, row[0]);
            x.act(true, 0, 5);
            check.due("harm at " + row[0], x.run(0), 2);
            ran(x, "harm", 3, row[1], 1, 1);
            check.due("no click", x.part(0, row[0], 8), 0);
        }
        x.clear();
        x.act(true, 0, 0);
        x.act(true, 0, 5);
        check.due("harm below is none", x.run(0), 2);
        ran(x, "no harm", 0, -1, 2, 0);
        // Harm is looked at where the part is found, not where it was told.
        ClickBench y = Check.with("p(a!)", "p(a)");
        y.act(true, 0, 1);
        check.due("no harm there", y.run(1), 1);
        ClickBench z = Check.with("p(a)", "p!(a)");
        z.act(true, 0, 1);
        check.due("harm there", z.run(1), 0);
        ran(z, "there", 3, 1, 0, 0);
        ClickBench w = Check.with("p(a! a!)");
        w.gap(100);
        w.act(true, 0, 1);
        check.due("doubtful goes ahead of harm", w.run(0), 0);
        ran(w, "doubtful and harm", 1, 1, 0, 0);
    }

    private static void stopsWithinALoop() {
        ClickBench x = Check.with("p(r(a\"x\") r(a\"y\") r!(a\"z\") r(a))");
        x.loop(false, 0, 2, 4);
        x.loop(true, 0, 2, 4);
        x.loop(false, 0, 2, 4);
        check.due("not wholly", x.run(0), 1);
        ran(x, "in a loop", 3, 6, 2, 4);
        readDue(x, 2, "z");
        readDue(x, 3, "");
        int[] clicks = {0, 0, 1, 0, 1, 0, 0, 0, 0};
        for (int part = 0; part < clicks.length; part++) {
            check.due("clicks on " + part, x.part(0, part, 8), clicks[part]);
        }
    }

    private static void clicksOnce() {
        ClickBench x = Check.with("p(a b a)");
        x.act(true, 0, 2);
        x.act(true, 0, 2);
        x.loop(true, 0, 1, 3);
        x.loop(true, 0, 1, 3);
        x.act(true, 0, 3);
        x.act(false, 0, 2);
        x.act(false, 0, 2);
        check.due("all done", x.run(0), 7);
        ran(x, "once", 0, -1, 3, 2);
        check.due("clicks", x.part(0, 2, 8), 1);
        check.due("clicks", x.part(0, 3, 8), 1);
        x.run(0);
        ran(x, "once a run", 0, -1, 3, 2);
        check.due("two runs", x.part(0, 2, 8), 2);
    }

    private static void readsKept() {
        StringBuilder page = new StringBuilder("p(");
        for (int n = 0; n < 30; n++) {
            page.append("a\"").append(n).append("\" ");
        }
        ClickBench x = Check.with(page.append(")").toString());
        x.loop(false, 0, 1, 2);
        x.loop(false, 0, 1, 2);
        check.due("run", x.run(0), 2);
        ran(x, "60 reads", 0, -1, 0, 60);
        for (int j = 0; j < 40; j++) {
            readDue(x, j, "" + j % 30);
        }
        for (int j = 40; j < 61; j++) {
            check.due("not kept", x.read(j, 0), -1);
        }
        check.due("read max", x.read(Integer.MAX_VALUE, 0), -1);
        check.due("read min", x.read(Integer.MIN_VALUE, 0), -1);
        check.due("byte max", x.read(0, Integer.MAX_VALUE), -1);
        ClickBench full = Check.with("p(" + Check.repeat("a ", 59) + ")");
        for (int n = 0; n < 20; n++) {
            full.loop(false, 0, 1, 2);
        }
        check.due("twenty loops", full.run(0), 20);
        ran(full, "all are counted", 0, -1, 0, 20 * 59);
    }

    private static void asTold() {
        ClickBench x = Check.with("p(a\"old\" a\"new\")", "p(a\"old\" a\"new\")");
        x.act(false, 0, 1);
        x.loop(false, 0, 1, 2);
        Check.page(x, 0, "z");
        check.due("the page that was told is gone", x.run(1), 2);
        readDue(x, 0, "old");
        readDue(x, 1, "old");
        readDue(x, 2, "new");
        Check.page(x, 1, "q");
        readDue(x, 0, "old");
        readDue(x, 2, "new");
    }

    private static void latestRunStays() {
        ClickBench x = Check.with("p(a\"t\" b!)", "p");
        check.due("no run yet", x.ran(0), -1);
        check.due("no run on no page", x.run(2), -1);
        check.due("still no run", x.ran(0), -1);
        check.due("still no read", x.read(0, 0), -1);
        x.act(false, 0, 1);
        x.act(true, 0, 2);
        check.due("run", x.run(0), 1);
        ran(x, "harm", 3, 2, 0, 1);
        check.due("no page", x.run(3), -1);
        check.due("no shelf", x.run(-1), -1);
        check.due("no shelf", x.run(4), -1);
        ran(x, "still", 3, 2, 0, 1);
        readDue(x, 0, "t");
        x.clear();
        ran(x, "cleared", 3, 2, 0, 1);
        x.act(false, 0, 1);
        check.due("missing", x.run(1), 0);
        ran(x, "next", 2, -1, 0, 0);
        check.due("its reads are gone", x.read(0, 0), -1);
    }

    private static void emptyRuns() {
        ClickBench x = Check.with("p(a a)", "q");
        check.due("no acts", x.run(0), 0);
        ran(x, "no acts", 0, -1, 0, 0);
        x.loop(true, 0, 1, 2);
        check.due("no rows", x.run(1), 1);
        ran(x, "no rows", 0, -1, 0, 0);
    }
}
