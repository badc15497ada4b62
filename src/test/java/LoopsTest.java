/** Promises 20 and 21: loops seen from two showings, and their rows on any page. */
final class LoopsTest {
    private static final Check check = new Check();

    public static void main(String[] args) {
        flat();
        nested();
        steps();
        otherPages();
        noLoops();
        check.finish();
    }

    private static void rows(ClickBench x, int a, int b, int other, int... due) {
        String call = "rows(0, " + a + ", " + b + ", " + other + ")";
        check.due(call, x.rows(0, a, b, other), due.length);
        check.due(call + " turned", x.rows(0, b, a, other), due.length);
        for (int k = 0; k < due.length; k++) {
            check.due(call + " row " + k, x.row(0, a, b, other, k), due[k]);
            check.due(call + " row " + k + " turned", x.row(0, b, a, other, k), due[k]);
        }
        check.due(call + " row behind", x.row(0, a, b, other, due.length), -1);
        check.due(call + " row -1", x.row(0, a, b, other, -1), -1);
        check.due(call + " row max", x.row(0, a, b, other, Integer.MAX_VALUE), -1);
        check.due(call + " row min", x.row(0, a, b, other, Integer.MIN_VALUE), -1);
    }

    private static void flat() {
        ClickBench x = Check.with("p(a b a#n a\"t\")");
        rows(x, 1, 3, 0, 1, 3, 4);
        rows(x, 3, 4, 0, 3, 4);
        rows(x, 1, 4, 0, 1, 4);
        ClickBench wide = Check.with("p(" + Check.repeat("a ", 59) + ")");
        check.due("59 rows", wide.rows(0, 1, 2, 0), 59);
        check.due("the last of 59", wide.row(0, 1, 2, 0, 58), 59);
        check.due("none behind", wide.row(0, 1, 2, 0, 59), -1);
        check.due("the first and the last", wide.rows(0, 1, 59, 0), 2);
    }

    private static void nested() {
        //                        0 1 2   3 4  5   6 7 8   9
        ClickBench x = Check.with("p(r(a b) r(b) r(a a b) q)");
        rows(x, 3, 5, 0, 3, 5, 9);
        rows(x, 2, 7, 0, 2, 7);
        rows(x, 7, 8, 0, 7, 8);
        rows(x, 1, 4, 0, 1, 4, 6);
        rows(x, 3, 9, 0, 3, 9);
        // The one in the middle has no such part, so a step of one ends ahead of it.
        ClickBench y = Check.with("p(r(a) r(a) r(b) r(a))");
        rows(y, 2, 4, 0, 2, 4);
        rows(y, 2, 8, 0, 2, 8);
        rows(y, 4, 8, 0, 4, 8);
    }

    private static void steps() {
        ClickBench x = Check.with("p(a a a a a a a)");
        rows(x, 1, 3, 0, 1, 3, 5, 7);
        rows(x, 2, 4, 0, 2, 4, 6);
        rows(x, 2, 5, 0, 2, 5);
        rows(x, 1, 4, 0, 1, 4, 7);
        rows(x, 6, 7, 0, 6, 7);
    }

    private static void otherPages() {
        ClickBench x = Check.with("p(r(a) r(a) r(a))", "p(x r(y a) r(a(z)) x r(a) r(a) r)", "p(r r(a))", "q(r(a) r(a))");
        rows(x, 2, 4, 1, 4, 6, 10, 12);
        rows(x, 4, 6, 1, 6, 10, 12);
        rows(x, 2, 4, 2);
        rows(x, 4, 6, 2, 3);
        rows(x, 2, 4, 3);
    }

    private static void noLoops() {
        ClickBench x = Check.with("p(r(a b) r(a a(c)) s(a))", "p");
        check.due("the same part", x.rows(0, 2, 2, 0), -1);
        check.due("the first part twice", x.rows(0, 0, 0, 0), -1);
        check.due("two turns differ", x.rows(0, 2, 6, 0), -1);
        check.due("kinds differ", x.rows(0, 2, 3, 0), -1);
        check.due("kinds above differ", x.rows(0, 2, 9, 0), -1);
        check.due("one is deeper", x.rows(0, 1, 2, 0), -1);
        check.due("the last is deeper", x.rows(0, 6, 7, 0), -1);
        check.due("no part a", x.rows(0, 10, 2, 0), -1);
        check.due("no part b", x.rows(0, 2, 10, 0), -1);
        check.due("part -1", x.rows(0, -1, 2, 0), -1);
        check.due("no page", x.rows(2, 0, 0, 0), -1);
        check.due("no other page", x.rows(0, 2, 5, 2), -1);
        check.due("no such shelf", x.rows(4, 2, 5, 0), -1);
        check.due("no such other shelf", x.rows(0, 2, 5, 4), -1);
        check.due("none there", x.rows(0, 2, 5, 1), 0);
        check.due("row of the same part", x.row(0, 2, 2, 0, 0), -1);
        check.due("row of no part", x.row(0, 2, 10, 0, 0), -1);
        check.due("row on no page", x.row(0, 2, 5, 3, 0), -1);
        check.due("row on no shelf", x.row(0, 2, 5, -1, 0), -1);
        check.due("row of none there", x.row(0, 2, 5, 1, 0), -1);
    }
}
