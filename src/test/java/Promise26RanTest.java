/** Promise 26: ran. */
final class Promise26RanTest {
    public static void main(String[] args) {
        Promise.run(Promise26RanTest.class);
    }

    @Says("Of the latest run() that was not NONE")
    static void theLatestThatWasNotNone(Check check) {
        ClickBench x = Check.with("p(a\"t\" b!)", "p");
        x.act(false, 0, 1);
        x.act(true, 0, 2);
        check.due("run", x.run(0), 1);
        check.ran(x, 3, 2, 0, 1);
        for (int shelf : new int[] {-1, 2, 3, 4, Check.MIN, Check.MAX}) {
            check.due("no page", x.run(shelf), -1);
            check.ran(x, 3, 2, 0, 1);
        }
        check.due("the next", x.run(1), 0);
        check.ran(x, 2, -1, 0, 0);
    }

    @Says("Of the latest run() that was not NONE")
    static void whatComesThenChangesNothing(Check check) {
        ClickBench x = Check.with("p(a\"t\" b!)");
        x.act(false, 0, 1);
        x.act(true, 0, 2);
        x.run(0);
        x.clear();
        x.gap(50);
        Check.page(x, 0, "z");
        check.ran(x, 3, 2, 0, 1);
    }

    @Says("what 0: why it stopped (0 it did not, 1 DOUBTFUL, 2 MISSING, 3 HARM)")
    static void why(Check check) {
        ClickBench x = Check.with("p(x b y)", "p(x b y x b y)", "p(x y)", "p(x b! y)");
        x.act(true, 0, 2);
        x.run(0);
        check.due("it did not", x.ran(0), 0);
        x.run(1);
        check.due("DOUBTFUL", x.ran(0), 1);
        x.run(2);
        check.due("MISSING", x.ran(0), 2);
        x.run(3);
        check.due("HARM", x.ran(0), 3);
        x.run(0);
        check.due("it did not again", x.ran(0), 0);
    }

    @Says("1: the PART at which it did (of DOUBTFUL BEST; NONE)")
    static void where(Check check) {
        ClickBench x = Check.with("p(x b y)", "p(x\"t\" b y x b y)", "p(x y)", "p(x b! y)");
        x.act(true, 0, 2);
        x.run(0);
        check.due("it did not", x.ran(1), -1);
        x.gap(2);
        x.run(1);
        check.due("of DOUBTFUL BEST", x.ran(1), 5);
        x.run(2);
        check.due("of MISSING none", x.ran(1), -1);
        x.run(3);
        check.due("of HARM the part", x.ran(1), 2);
        x.run(0);
        check.due("it did not again", x.ran(1), -1);
    }

    @Says("1: the PART at which it did (of DOUBTFUL BEST; NONE)")
    static void whereInALoop(Check check) {
        ClickBench x = Check.with("p(a a a!(b) a)");
        x.loop(true, 0, 1, 2);
        check.due("run", x.run(0), 0);
        check.ran(x, 3, 3, 2, 0);
    }

    @Says("2: CLICKS made")
    static void clicksMade(Check check) {
        ClickBench x = Check.with("p(a b a)");
        x.run(0);
        check.due("none", x.ran(2), 0);
        x.act(true, 0, 2);
        x.act(true, 0, 2);
        x.act(false, 0, 2);
        x.run(0);
        check.due("what is passed over is not made", x.ran(2), 1);
        x.loop(true, 0, 1, 3);
        x.run(0);
        check.due("of rows each", x.ran(2), 3);
    }

    @Says("3: how many were READ")
    static void howManyWereRead(Check check) {
        ClickBench x = Check.with(Check.wide(60));
        x.run(0);
        check.due("none", x.ran(3), 0);
        x.act(false, 0, 0);
        x.act(false, 0, 0);
        x.run(0);
        check.due("each time", x.ran(3), 2);
        for (int n = 0; n < 18; n++) {
            x.loop(false, 0, 1, 2);
        }
        x.run(0);
        check.due("all, not those kept alone", x.ran(3), 2 + 18 * 59);
    }

    @Says("NONE for another what")
    static void anotherWhat(Check check) {
        ClickBench x = Check.with("p");
        x.run(0);
        for (int what : new int[] {-1, 4, 5, Check.MIN, Check.MAX}) {
            check.due("ran(" + what + ")", x.ran(what), -1);
        }
    }

    @Says("or without")
    static void without(Check check) {
        ClickBench x = Check.with("p");
        check.ran(x, -1, -1, -1, -1);
        x.act(true, 0, 0);
        check.due("no page", x.run(1), -1);
        check.due("no shelf", x.run(4), -1);
        check.ran(x, -1, -1, -1, -1);
        check.due("ran(4)", x.ran(4), -1);
        x.run(0);
        check.ran(x, 0, -1, 1, 0);
    }
}
