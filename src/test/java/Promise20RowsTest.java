/** Promise 20: rows, and the term LOOPS. */
final class Promise20RowsTest {
    public static void main(String[] args) {
        Promise.run(Promise20RowsTest.class);
    }

    /** The rows on a shelf of the loop that two parts of shelf 0 make, whichever of both is told first. */
    private static void rows(Check check, ClickBench x, int a, int b, int other, int... due) {
        String call = "rows(0, " + a + ", " + b + ", " + other + ")";
        check.due(call, x.rows(0, a, b, other), due.length);
        check.due(call + " turned", x.rows(0, b, a, other), due.length);
        for (int k = 0; k < due.length; k++) {
            check.due(call + " row " + k, x.row(0, a, b, other, k), due[k]);
            check.due(call + " row " + k + " turned", x.row(0, b, a, other, k), due[k]);
        }
        check.due(call + " row behind", x.row(0, a, b, other, due.length), -1);
    }

    private static void none(Check check, ClickBench x, String why, int a, int b) {
        check.due(why, x.rows(0, a, b, 0), -1);
        check.due(why + ", turned", x.rows(0, b, a, 0), -1);
    }

    @Says({"Two PARTS of one PAGE whose PATHS are as long, and the same but for one TURN", "make a LOOP"})
    static void oneTurnDiffers(Check check) {
        ClickBench x = Check.with("p(r(a b) r(b) r(a a b) q)");
        rows(check, x, 3, 5, 0, 3, 5, 9);
        rows(check, x, 2, 7, 0, 2, 7);
        rows(check, x, 7, 8, 0, 7, 8);
        rows(check, x, 1, 4, 0, 1, 4, 6);
        rows(check, x, 3, 9, 0, 3, 9);
        String deep = "a(".repeat(10);
        ClickBench y = Check.with(deep + "b(c) b(c) b(c)" + ")".repeat(10));
        rows(check, y, 11, 13, 0, 11, 13, 15);
    }

    @Says("whose PATHS are as long")
    static void pathsAreNotAsLong(Check check) {
        ClickBench x = Check.with("a(a(a) a)");
        none(check, x, "one is the other's PARENT", 0, 1);
        none(check, x, "one is within the other", 1, 2);
        none(check, x, "one is deeper", 2, 3);
    }

    @Says("the same but for one TURN")
    static void noneOrTwoTurnsDiffer(Check check) {
        ClickBench x = Check.with("p(r(a b) r(a a) r(a))");
        none(check, x, "the same part", 2, 2);
        none(check, x, "the first part twice", 0, 0);
        none(check, x, "two turns differ", 2, 6);
        none(check, x, "two turns differ", 6, 8);
        rows(check, x, 5, 8, 0, 5, 8);
    }

    @Says("i and j, i below j")
    static void whicheverIsToldFirst(Check check) {
        ClickBench x = Check.with("p(a a a a a)");
        check.due("the lower first", x.row(0, 2, 4, 0, 0), 2);
        check.due("the higher first", x.row(0, 4, 2, 0, 0), 2);
        check.due("the higher first, its rows", x.rows(0, 4, 2, 0), 2);
    }

    @Says("(KINDS all the same)")
    static void kindsDiffer(Check check) {
        ClickBench x = Check.with("p(r(a b) s(a) r(b a) a)");
        none(check, x, "their own KINDS", 2, 3);
        none(check, x, "their own KINDS, beside one another above", 2, 7);
        none(check, x, "KINDS above them", 2, 5);
        none(check, x, "their own and one TURN", 3, 8);
        rows(check, x, 3, 7, 0, 3, 7);
    }

    @Says("i, i + (j - i), i + 2 (j - i), .. as long as there is, on a PAGE, a PART with that PATH")
    static void steps(Check check) {
        ClickBench x = Check.with("p(a a a a a a a)");
        rows(check, x, 1, 2, 0, 1, 2, 3, 4, 5, 6, 7);
        rows(check, x, 1, 3, 0, 1, 3, 5, 7);
        rows(check, x, 2, 4, 0, 2, 4, 6);
        rows(check, x, 2, 5, 0, 2, 5);
        rows(check, x, 1, 4, 0, 1, 4, 7);
        rows(check, x, 1, 7, 0, 1, 7);
        rows(check, x, 6, 7, 0, 6, 7);
    }

    @Says("i, i + (j - i), i + 2 (j - i), .. as long as there is, on a PAGE, a PART with that PATH")
    static void fiftyNineRows(Check check) {
        ClickBench x = Check.with(Check.wide(60));
        check.due("59 rows", x.rows(0, 1, 2, 0), 59);
        check.due("the last", x.row(0, 1, 2, 0, 58), 59);
        check.due("none behind", x.row(0, 1, 2, 0, 59), -1);
        check.due("the first and the last", x.rows(0, 1, 59, 0), 2);
        check.due("the last two", x.rows(0, 58, 59, 0), 2);
    }

    @Says("these are its ROWS (it ends at the first that is not there)")
    static void endsAtTheFirstThatIsNotThere(Check check) {
        ClickBench x = Check.with("p(r(a) r(a) r(b) r(a))");
        rows(check, x, 2, 4, 0, 2, 4);
        rows(check, x, 2, 8, 0, 2, 8);
        rows(check, x, 4, 8, 0, 4, 8);
        ClickBench y = Check.with("p(r(a) r(a))", "p(r(b) r(a) r(a))");
        rows(check, y, 2, 4, 1);
    }

    @Says("How many ROWS the LOOP of two PARTS of a SHELF has on the other SHELF")
    static void onOtherPages(Check check) {
        ClickBench x = Check.with("p(r(a) r(a) r(a))", "p(x r(y a) r(a(z)) x r(a) r(a) r)", "p(r r(a))", "q(r(a) r(a))");
        rows(check, x, 2, 4, 1, 4, 6, 10, 12);
        rows(check, x, 4, 6, 1, 6, 10, 12);
        rows(check, x, 2, 6, 1, 4, 10);
        rows(check, x, 2, 4, 2);
        rows(check, x, 4, 6, 2, 3);
        rows(check, x, 2, 4, 3);
    }

    @Says("NONE if they make none")
    static void noSuchPart(Check check) {
        ClickBench x = Check.with("p(a a)", "p");
        for (int part : new int[] {-1, 3, 60, Check.MIN, Check.MAX}) {
            none(check, x, "part " + part, part, 1);
            none(check, x, "part " + part + " twice", part, part);
        }
        check.due("that shelf has no parts 1 and 2", x.rows(1, 1, 2, 0), -1);
        for (int shelf : new int[] {-1, 2, 3, 4, Check.MIN, Check.MAX}) {
            check.due("shelf " + shelf, x.rows(shelf, 1, 2, 0), -1);
        }
    }

    @Says("or there is no PAGE")
    static void noPage(Check check) {
        ClickBench x = Check.with("p(a a)", "p");
        check.due("a page without such a row", x.rows(0, 1, 2, 1), 0);
        for (int shelf : new int[] {-1, 2, 3, 4, Check.MIN, Check.MAX}) {
            check.due("other " + shelf, x.rows(0, 1, 2, shelf), -1);
        }
    }
}
