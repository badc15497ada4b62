/** Promise 11: find, and what of the term LIKENESS says of FINDING. */
final class Promise11FindTest {
    /** The part that is looked for: between x and y, under p. */
    private static final String TOLD = "p(x b y)";

    public static void main(String[] args) {
        Promise.run(Promise11FindTest.class);
    }

    private static ClickBench find(Check check, String page, int gap, int due) {
        ClickBench x = Check.with(TOLD, page);
        x.gap(gap);
        check.due("find on <" + page + ">, GAP " + gap, x.find(0, 2, 1), due);
        return x;
    }

    @Says("FINDING a on another PAGE (or its own)")
    static void onAnotherPageOrItsOwn(Check check) {
        ClickBench x = Check.with("p(b\"one\" b\"two\" c)", "p(b\"two\" b\"one\")");
        check.due("on its own", x.find(0, 1, 0), 1);
        check.found(x, 1, 2, 0, 3 + 3 + 5);
        check.due("on another", x.find(0, 1, 1), 1);
        check.found(x, 1, 2, 3 + 1, 3 + 3);
        check.due("the first part on its own", x.find(0, 0, 0), 1);
        check.found(x, 0, -1, 0, -1);
    }

    @Says("all PARTS there of a's KIND are looked at")
    static void onlyThoseOfItsKind(Check check) {
        // c stands just where b did, and costs less; but it is none of its KIND.
        ClickBench x = find(check, "p(x c y z(w b#n w))", 1, 1);
        check.due("c would cost", x.cost(0, 2, 1, 2), 3 * 4);
        check.found(x, 6, -1, 3 * 2 + 4 + 4 + 4, -1);
        check.found(find(check, "q(x c y b(b b(b)))", 1, 1), 7, 5, 4 + 3 + 3, 4 + 3 + 4);
    }

    @Says("all PARTS there of a's KIND are looked at")
    static void theFirstAndTheLastToo(Check check) {
        check.found(find(check, "b(x)", 1, 1), 0, -1, 9 + 9, -1);
        check.found(find(check, "b(b)", 1, 1), 1, 0, 4 + 6, 9 + 9);
        ClickBench x = Check.with("p(" + "c ".repeat(58) + "b)", "p(" + "c ".repeat(58) + "b)");
        check.due("the last of 60", x.find(0, 59, 1), 1);
        check.found(x, 59, -1, 0, -1);
    }

    @Says("BEST is the one with the least COST (the least number of like ones)")
    static void best(Check check) {
        check.found(find(check, "p(x b y x\"t\" b y)", 1, 1), 2, 5, 0, 1);
        check.found(find(check, "p(x\"t\" b y x b y)", 1, 1), 5, 2, 0, 1);
        check.found(find(check, "p(x#n b y x\"t\" b y x b y)", 1, 1), 8, 5, 0, 1);
        check.found(find(check, "p(x b y x b y x b y)", 1, 0), 2, 5, 0, 0);
    }

    @Says("NEXT that of the others")
    static void next(Check check) {
        check.found(find(check, "p(x\"t\" b y x b y x\"t\" b y)", 1, 1), 5, 2, 0, 1);
        check.found(find(check, "p(x b y x#n b y x\"t\" b y)", 1, 1), 2, 8, 0, 1);
        check.found(find(check, "p(x b y x\"t\" b y x#n b y)", 1, 1), 2, 5, 0, 1);
        check.found(find(check, "p(x\"s\" b y x\"t\" b y x\"u\" b y)", 1, 0), 2, 5, 1, 1);
    }

    @Says("It is FOUND, if there is no NEXT")
    static void noNext(Check check) {
        check.found(find(check, "p(x b y)", 100, 1), 2, -1, 0, -1);
        check.found(find(check, "q(c(d b#n\"t\"(e)))", 100, 1), 3, -1, 3 * (2 + 1 + 3) + 4 + 4 + 3, -1);
    }

    @Says("or NEXT's COST is more than BEST's by GAP (0 .. 100, 1 at first) or more")
    static void byGapOrMore(Check check) {
        find(check, "p(x b y x\"t\" b y)", 1, 1);
        find(check, "p(x b y x#n b y)", 2, 1);
        find(check, "p(x b y x#n b y)", 1, 1);
        find(check, "p(x b y x#n\"t\" b y)", 3, 1);
        find(check, "p(x b y z#n\"t\" b y)", 7, 1);
    }

    @Says("else DOUBTFUL")
    static void byLessThanGap(Check check) {
        check.found(find(check, "p(x b y x b y)", 1, 0), 2, 5, 0, 0);
        check.found(find(check, "p(x b y x\"t\" b y)", 2, 0), 2, 5, 0, 1);
        check.found(find(check, "p(x b y x#n b y)", 3, 0), 2, 5, 0, 2);
        check.found(find(check, "p(x b y z#n\"t\" b y)", 8, 0), 2, 5, 0, 7);
    }

    @Says("GAP (0 .. 100, 1 at first)")
    static void gap0IsNeverDoubtful(Check check) {
        check.found(find(check, "p(x b y x b y)", 0, 1), 2, 5, 0, 0);
        check.found(find(check, "q(b b b b)", 0, 1), 1, 4, 4 + 3 + 4, 4 + 4 + 3);
    }

    @Says("GAP (0 .. 100, 1 at first)")
    static void gap100(Check check) {
        String eleven = "b(" + "c ".repeat(11) + ")";
        check.found(find(check, "p(x b y x\"t\" " + eleven + " y)", 100, 1), 2, 5, 0, 100);
        check.found(find(check, "p(x b y x " + eleven + " y)", 100, 0), 2, 5, 0, 99);
        check.found(find(check, "p(x b y x#n " + eleven + " y)", 100, 1), 2, 5, 0, 101);
    }

    @Says("MISSING if there is none of its KIND")
    static void missing(Check check) {
        find(check, "p(x y)", 1, -2);
        find(check, "p", 0, -2);
        find(check, "bb(x a#b\"b\" y)", 100, -2);
    }

    @Says("FINDING: 1 FOUND, 0 DOUBTFUL, -2 MISSING")
    static void theThreeAnswers(Check check) {
        ClickBench x = Check.with(TOLD, "p(x b y)", "p(x b y x b y)", "p(x y)");
        check.due("FOUND", x.find(0, 2, 1), 1);
        check.due("DOUBTFUL", x.find(0, 2, 2), 0);
        check.due("MISSING", x.find(0, 2, 3), -2);
    }

    @Says("NONE if there is no such PART, or PAGE")
    static void noSuchPartOrPage(Check check) {
        ClickBench x = Check.with("p(b)", "p");
        for (int part : new int[] {-1, 2, 60, Check.MIN, Check.MAX}) {
            check.due("part " + part, x.find(0, part, 0), -1);
        }
        check.due("that shelf has no part 1", x.find(1, 1, 0), -1);
        for (int shelf : new int[] {-1, 2, 3, 4, Check.MIN, Check.MAX}) {
            check.due("shelf " + shelf, x.find(shelf, 0, 0), -1);
            check.due("other " + shelf, x.find(0, 0, shelf), -1);
        }
    }
}
