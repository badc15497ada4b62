/** Promise 21: row. */
final class Promise21RowTest {
    public static void main(String[] args) {
        Promise.run(Promise21RowTest.class);
    }

    @Says("The k-th of them")
    static void fromTheFirstToTheLast(Check check) {
        ClickBench x = Check.with("p(a b a b(a) a)", "p(c a a(a) a a)");
        int[] due = {2, 3, 5, 6};
        check.due("rows", x.rows(0, 1, 3, 1), 4);
        for (int k = 0; k < due.length; k++) {
            check.due("row " + k, x.row(0, 1, 3, 1, k), due[k]);
        }
        check.due("by two", x.row(0, 1, 6, 1, 1), 5);
    }

    @Says("The k-th of them")
    static void notFromTurnZeroOn(Check check) {
        ClickBench x = Check.with("p(a a a a)", "p(a a b a a a a a)");
        int[] due = {2, 5, 7};
        for (int k = 0; k < due.length; k++) {
            check.due("row " + k, x.row(0, 2, 4, 1, k), due[k]);
            check.due("row " + k + ", turned", x.row(0, 4, 2, 1, k), due[k]);
        }
        check.due("none behind", x.row(0, 2, 4, 1, due.length), -1);
    }

    @Says("NONE.")
    static void noSuchK(Check check) {
        ClickBench x = Check.with("p(a a)", "q");
        for (int k : new int[] {-1, 2, 3, 60, Check.MIN, Check.MAX}) {
            check.due("row " + k, x.row(0, 1, 2, 0, k), -1);
            check.due("row " + k + " of none", x.row(0, 1, 2, 1, k), -1);
        }
        check.due("row 0 of none", x.row(0, 1, 2, 1, 0), -1);
    }

    @Says("NONE.")
    static void noLoop(Check check) {
        ClickBench x = Check.with("p(a a b(a))");
        check.due("the same part", x.row(0, 1, 1, 0, 0), -1);
        check.due("another KIND", x.row(0, 1, 3, 0, 0), -1);
        check.due("one is deeper", x.row(0, 1, 4, 0, 0), -1);
        for (int part : new int[] {-1, 5, 60, Check.MIN, Check.MAX}) {
            check.due("part a " + part, x.row(0, part, 1, 0, 0), -1);
            check.due("part b " + part, x.row(0, 1, part, 0, 0), -1);
        }
    }

    @Says("NONE.")
    static void noPage(Check check) {
        ClickBench x = Check.with("p(a a)");
        for (int shelf : new int[] {-1, 1, 3, 4, Check.MIN, Check.MAX}) {
            check.due("shelf " + shelf, x.row(shelf, 1, 2, 0, 0), -1);
            check.due("other " + shelf, x.row(0, 1, 2, shelf, 0), -1);
        }
    }
}
