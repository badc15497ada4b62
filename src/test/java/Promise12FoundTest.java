/** Promise 12: found. */
final class Promise12FoundTest {
    public static void main(String[] args) {
        Promise.run(Promise12FoundTest.class);
    }

    @Says({"what 0: BEST, 1: NEXT (NONE), 2: BEST's COST, 3: NEXT's (NONE)"})
    static void allFour(Check check) {
        ClickBench x = Check.with("p(b c)", "p(b x b)");
        check.due("two of its KIND", x.find(0, 1, 1), 1);
        check.found(x, 1, 3, 4, 6);
    }

    @Says({"what 0: BEST, 1: NEXT (NONE), 2: BEST's COST, 3: NEXT's (NONE)"})
    static void noNext(Check check) {
        ClickBench x = Check.with("p(b c)", "p(b x b)");
        x.find(0, 1, 1);
        check.due("one of its KIND", x.find(0, 0, 1), 1);
        check.found(x, 0, -1, 3 * (4 + 3), -1);
    }

    @Says("Of the latest find() that told 1 or 0")
    static void afterOneThatToldZero(Check check) {
        ClickBench x = Check.with("p(b b)", "p(b b)", "q(b b b b)");
        x.gap(0);
        x.find(0, 1, 1);
        check.found(x, 1, 2, 0, 6);
        x.gap(100);
        check.due("doubtful", x.find(0, 2, 2), 0);
        check.found(x, 4, 2, 4, 7);
    }

    @Says("Of the latest find() that told 1 or 0")
    static void notOfOneThatWasMissingOrNone(Check check) {
        ClickBench x = Check.with("p(b c)", "p(b x b)");
        x.find(0, 1, 1);
        check.due("missing", x.find(0, 2, 1), -2);
        check.found(x, 1, 3, 4, 6);
        check.due("no part", x.find(0, 3, 1), -1);
        check.due("no page", x.find(0, 1, 2), -1);
        check.due("no shelf", x.find(0, 1, 4), -1);
        check.found(x, 1, 3, 4, 6);
    }

    @Says("Of the latest find() that told 1 or 0")
    static void notOfARunOrACost(Check check) {
        ClickBench x = Check.with("p(b c)", "p(b x b)", "d(b)");
        x.find(0, 1, 1);
        x.act(true, 0, 1);
        check.due("a run finds, too", x.run(2), 1);
        x.cost(0, 0, 1, 0);
        check.found(x, 1, 3, 4, 6);
    }

    @Says("Of the latest find() that told 1 or 0")
    static void afterThePageIsGone(Check check) {
        ClickBench x = Check.with("p(b c)", "p(b x b)");
        x.find(0, 1, 1);
        Check.page(x, 1, "z");
        Check.page(x, 0, "y");
        x.gap(50);
        check.found(x, 1, 3, 4, 6);
    }

    @Says("NONE for another what")
    static void anotherWhat(Check check) {
        ClickBench x = Check.with("p(b b)");
        x.find(0, 1, 0);
        for (int what : new int[] {-1, 4, 5, Check.MIN, Check.MAX}) {
            check.due("found(" + what + ")", x.found(what), -1);
        }
    }

    @Says("or without")
    static void without(Check check) {
        ClickBench x = Check.with("p(b)", "q");
        check.found(x, -1, -1, -1, -1);
        check.due("missing", x.find(0, 1, 1), -2);
        check.due("none", x.find(0, 2, 1), -1);
        check.found(x, -1, -1, -1, -1);
        check.due("found(4)", x.found(4), -1);
    }
}
