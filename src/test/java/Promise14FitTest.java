/** Promise 14: fit. */
final class Promise14FitTest {
    public static void main(String[] args) {
        Promise.run(Promise14FitTest.class);
    }

    @Says("The k-th of them")
    static void fromTheFirstToTheLast(Check check) {
        ClickBench x = Check.with("p(b)", "b(a b(b a) b)");
        int[] due = {0, 2, 3, 5};
        check.due("fits", x.fits(0, 1, 4, 1), 4);
        for (int k = 0; k < due.length; k++) {
            check.due("fit " + k, x.fit(0, 1, 4, 1, k), due[k]);
        }
        ClickBench y = Check.with(Check.wide(60));
        check.due("the last of sixty", y.fit(0, 0, 1, 0, 59), 59);
        check.due("there is no sixty-first", y.fit(0, 0, 1, 0, 60), -1);
    }

    @Says("NONE.")
    static void noSuchK(Check check) {
        ClickBench x = Check.with("p(b b)", "q");
        for (int k : new int[] {-1, 2, 3, 60, Check.MIN, Check.MAX}) {
            check.due("fit " + k, x.fit(0, 1, 4, 0, k), -1);
        }
        check.due("none FITS", x.fit(0, 1, 4, 1, 0), -1);
    }

    @Says("NONE.")
    static void wrongMarks(Check check) {
        ClickBench x = Check.with("a(b b)");
        for (int marks : new int[] {0, -1, 256, 257, 260, 511, Check.MIN, Check.MAX}) {
            check.due("marks " + marks, x.fit(0, 1, marks, 0, 0), -1);
        }
    }

    @Says("NONE.")
    static void noSuchPartOrPage(Check check) {
        ClickBench x = Check.with("a(b b)", "b");
        for (int part : new int[] {-1, 3, 60, Check.MIN, Check.MAX}) {
            check.due("part " + part, x.fit(0, part, 4, 0, 0), -1);
        }
        for (int shelf : new int[] {-1, 2, 3, 4, Check.MIN, Check.MAX}) {
            check.due("shelf " + shelf, x.fit(shelf, 0, 4, 0, 0), -1);
            check.due("other " + shelf, x.fit(0, 0, 4, shelf, 0), -1);
        }
    }
}
