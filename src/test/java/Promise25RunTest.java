/** Promise 25: run, and the term RUNS. */
final class Promise25RunTest {
    public static void main(String[] args) {
        Promise.run(Promise25RunTest.class);
    }

    @Says({"A RUN on a SHELF: how many ACTS were done wholly", "A RUN on a SHELF: ACT by ACT"})
    static void allAreDone(Check check) {
        ClickBench x = Check.with("p(a\"one\" b c\"\" d\"four\" d\"five\")");
        x.act(false, 0, 1);
        x.act(true, 0, 2);
        x.act(false, 0, 3);
        x.act(false, 0, 2);
        x.loop(false, 0, 4, 5);
        x.loop(true, 0, 4, 5);
        check.due("run", x.run(0), 6);
        check.ran(x, 0, -1, 3, 5);
        check.clicks(x, 0, 0, 0, 1, 0, 1, 1);
        check.due("run again", x.run(0), 6);
        check.ran(x, 0, -1, 3, 5);
        check.clicks(x, 0, 0, 0, 2, 0, 2, 2);
    }

    @Says("A RUN on a SHELF: how many ACTS were done wholly")
    static void noActs(Check check) {
        ClickBench x = Check.with("p(a a)");
        check.due("run", x.run(0), 0);
        check.ran(x, 0, -1, 0, 0);
    }

    @Says("A RUN on a SHELF: how many ACTS were done wholly")
    static void twentyActs(Check check) {
        ClickBench x = Check.with(Check.wide(60));
        for (int n = 0; n < 20; n++) {
            x.loop(n % 2 == 0, 0, 1, 2);
        }
        check.due("run", x.run(0), 20);
        check.ran(x, 0, -1, 59, 590);
    }

    @Says({"A RUN on a SHELF: how many ACTS were done wholly", "of a LOOP ROW by ROW"})
    static void aLoopThatStopsIsNotDoneWholly(Check check) {
        ClickBench x = Check.with("p(r(a\"x\") r(a\"y\") r!(a\"z\") r(a))");
        x.loop(false, 0, 2, 4);
        x.loop(true, 0, 2, 4);
        x.loop(false, 0, 2, 4);
        check.due("run", x.run(0), 1);
        check.ran(x, 3, 6, 2, 4);
        check.clicks(x, 0, 0, 0, 1, 0, 1, 0, 0, 0, 0);
    }

    @Says("(its ROWS as they are when the ACT begins)")
    static void itsRowsOnThePageOfTheRun(Check check) {
        ClickBench x = Check.with("p(a a)", "p(a a a a)", "p(a)", "q");
        x.loop(true, 0, 1, 2);
        check.due("four rows", x.run(1), 1);
        check.clicks(x, 1, 0, 1, 1, 1, 1);
        check.due("one row", x.run(2), 1);
        check.clicks(x, 2, 0, 1);
        check.due("no row: it is done", x.run(3), 1);
        check.ran(x, 0, -1, 0, 0);
        check.clicks(x, 0, 0, 0, 0);
    }

    @Says({"of a LOOP ROW by ROW", "(its ROWS as they are when the ACT begins)"})
    static void itsRowsEndAtTheFirstThatIsNotThere(Check check) {
        ClickBench x = Check.with("p(r(a) r(a\"1\") r r(a\"3\"))", "p(r r(a\"1\") r r(a\"3\") r r(b) r r(a\"7\"))");
        x.loop(false, 0, 4, 7);
        x.loop(true, 0, 7, 4);
        check.due("from the second on by two", x.run(0), 2);
        check.ran(x, 0, -1, 2, 2);
        check.clicks(x, 0, 0, 0, 0, 0, 1, 0, 0, 1);
        check.due("the third row is not there", x.run(1), 2);
        check.ran(x, 0, -1, 2, 2);
        check.read(x, 0, "1");
        check.read(x, 1, "3");
        check.clicks(x, 1, 0, 0, 0, 1, 0, 0, 1, 0, 0, 0, 0, 0, 0);
        x.loop(false, 0, 2, 4);
        check.due("the first row is not there", x.run(1), 3);
        check.ran(x, 0, -1, 2, 2);
    }

    @Says("a PART is FOUND, as told")
    static void foundAsTold(Check check) {
        ClickBench x = Check.with("p(x b y)", "p(x\"t\" b\"1\" y x b\"2\" y)");
        x.act(false, 0, 2);
        check.due("run", x.run(1), 1);
        check.read(x, 0, "2");
        check.due("it is what find tells", x.find(0, 2, 1), 1);
        check.due("BEST", x.found(0), 5);
    }

    /** With this GAP each part would be DOUBTFUL. */
    @Says("(of a LOOP it is there by its PATH)")
    static void aLoopIsNeverDoubtful(Check check) {
        ClickBench x = Check.with("p(a a)", "p(a a#n(c) a\"t\")");
        x.gap(100);
        check.due("find", x.find(0, 1, 1), 0);
        x.loop(true, 0, 1, 2);
        check.due("run", x.run(1), 1);
        check.clicks(x, 1, 0, 1, 1, 0, 1);
    }

    @Says("if it is DOUBTFUL or MISSING, the RUN stops ahead of it")
    static void stopsAheadOfWhatIsDoubtful(Check check) {
        ClickBench x = Check.with("p(a x b y)", "p(a x b y x b y)");
        x.act(true, 0, 1);
        x.act(false, 0, 3);
        x.act(true, 0, 3);
        x.act(true, 0, 1);
        check.due("a READ stops, too", x.run(1), 1);
        check.ran(x, 1, 3, 1, 0);
        check.clicks(x, 1, 0, 1, 0, 0, 0, 0, 0, 0);
        x.gap(0);
        check.due("GAP as it is now", x.run(1), 4);
        check.ran(x, 0, -1, 2, 1);
    }

    @Says("if it is DOUBTFUL or MISSING, the RUN stops ahead of it")
    static void stopsAheadOfWhatIsMissing(Check check) {
        ClickBench x = Check.with("p(a b c)", "p(a c)");
        x.act(true, 0, 1);
        x.act(false, 0, 3);
        x.act(true, 0, 2);
        x.act(true, 0, 3);
        check.due("run", x.run(1), 2);
        check.ran(x, 2, -1, 1, 1);
        check.clicks(x, 1, 0, 1, 0);
        check.clicks(x, 0, 0, 0, 0, 0);
        x.clear();
        x.act(false, 0, 2);
        check.due("a READ stops, too", x.run(1), 0);
        check.ran(x, 2, -1, 0, 0);
    }

    @Says("if it is HARM (also one of its PARENTS), a CLICK stops ahead of it")
    static void stopsAheadOfHarm(Check check) {
        for (int part = 1; part <= 4; part++) {
            ClickBench x = Check.with("p(a\"t\"! b!(c(d)) e)");
            x.act(true, 0, 5);
            x.act(false, 0, part);
            x.act(true, 0, part);
            x.act(true, 0, 5);
            check.due("harm at " + part, x.run(0), 2);
            check.ran(x, 3, part, 1, 1);
            check.clicks(x, 0, 0, 0, 0, 0, 0, 1);
        }
    }

    @Says("if it is HARM (also one of its PARENTS), a CLICK stops ahead of it")
    static void harmOfTheFirstIsHarmOfAll(Check check) {
        ClickBench x = Check.with("a!(" + Check.deep(11) + ")");
        x.gap(0);
        x.act(false, 0, 11);
        x.act(true, 0, 11);
        check.due("a READ goes on, a CLICK stops", x.run(0), 1);
        check.ran(x, 3, 11, 0, 1);
    }

    @Says("if it is HARM (also one of its PARENTS), a CLICK stops ahead of it")
    static void harmBelowOrBesideIsNone(Check check) {
        ClickBench x = Check.with("p(a! b c!(d))");
        x.act(true, 0, 0);
        x.act(true, 0, 2);
        check.due("run", x.run(0), 2);
        check.ran(x, 0, -1, 2, 0);
    }

    @Says("if it is HARM (also one of its PARENTS), a CLICK stops ahead of it")
    static void harmIsLookedAtWhereItIsFound(Check check) {
        ClickBench x = Check.with("p(a!)", "p(a)", "p!(a)");
        x.act(true, 0, 1);
        check.due("no harm there", x.run(1), 1);
        check.clicks(x, 1, 0, 1);
        check.due("harm there", x.run(2), 0);
        check.ran(x, 3, 1, 0, 0);
    }

    @Says("if it is DOUBTFUL or MISSING, the RUN stops ahead of it")
    static void doubtfulGoesAheadOfHarm(Check check) {
        ClickBench x = Check.with("p(a! a!)");
        x.gap(100);
        x.act(true, 0, 1);
        check.due("run", x.run(0), 0);
        check.ran(x, 1, 1, 0, 0);
    }

    @Says({"A CLICK counts one more on the PART", "(each PART once in a RUN: what was CLICKED in it already is passed"
            + " over)"})
    static void eachPartOnceInARun(Check check) {
        ClickBench x = Check.with("p(a b a)");
        x.act(true, 0, 2);
        x.act(true, 0, 2);
        x.loop(true, 0, 1, 3);
        x.loop(true, 0, 1, 3);
        x.act(true, 0, 3);
        x.act(false, 0, 2);
        x.act(false, 0, 2);
        check.due("what is passed over is done", x.run(0), 7);
        check.ran(x, 0, -1, 3, 2);
        check.clicks(x, 0, 0, 1, 1, 1);
        check.due("another run", x.run(0), 7);
        check.ran(x, 0, -1, 3, 2);
        check.clicks(x, 0, 0, 2, 2, 2);
    }

    @Says("(each PART once in a RUN: what was CLICKED in it already is passed over)")
    static void clicksOfARunThatStoppedStay(Check check) {
        ClickBench x = Check.with("p(a b!)");
        x.act(true, 0, 1);
        x.act(true, 0, 2);
        for (int runs = 1; runs <= 3; runs++) {
            check.due("run", x.run(0), 1);
            check.clicks(x, 0, 0, runs, 0);
        }
    }

    @Says("NONE: no PAGE")
    static void noPage(Check check) {
        ClickBench x = Check.with("p(a)");
        x.act(true, 0, 1);
        for (int shelf : new int[] {-1, 1, 2, 3, 4, Check.MIN, Check.MAX}) {
            check.due("run(" + shelf + ")", x.run(shelf), -1);
        }
        check.clicks(x, 0, 0, 0);
    }
}
