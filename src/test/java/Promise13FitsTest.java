/** Promise 13: fits, and what of the term MARKS says of each MARK. */
final class Promise13FitsTest {
    //                                 0 1        2      3 4     5
    private static final String TOLD = "p(label\"L\" a#n\"t\" b(a\"\" a))";
    //                                  0 1        2      3 4      5 6 7         8 9    10
    private static final String OTHER = "p(label\"L\" a#n\"t\" b(a#m\"\" a b) label\"M\" b(a#n b))";

    public static void main(String[] args) {
        Promise.run(Promise13FitsTest.class);
    }

    private static void fits(Check check, String told, String other, int part, int marks, int... due) {
        ClickBench x = Check.with(told, other);
        String call = "fits " + part + " of <" + told + ">, " + marks + ", on <" + other + ">";
        check.due(call, x.fits(0, part, marks, 1), due.length);
        for (int k = 0; k < due.length; k++) {
            check.due(call + ", fit " + k, x.fit(0, part, marks, 1, k), due[k]);
        }
        check.due(call + ", fit behind", x.fit(0, part, marks, 1, due.length), -1);
    }

    @Says("1 its NAME")
    static void itsName(Check check) {
        fits(check, TOLD, OTHER, 2, 1, 2, 9);
        fits(check, TOLD, OTHER, 3, 1, 0, 1, 3, 5, 6, 7, 8, 10);
        fits(check, "a#abcdefgh", "p(a#abcdefgh a#abcdefgx a#abcdefg)", 0, 1, 1);
    }

    @Says("2 its TEXT")
    static void itsText(Check check) {
        fits(check, TOLD, OTHER, 2, 2, 2);
        fits(check, TOLD, OTHER, 5, 2, 0, 3, 5, 6, 8, 9, 10);
        fits(check, "a\"0123456789ABCDEF\"", "p(a\"0123456789ABCDEF\" a\"0123456789ABCDEG\" a\"0123456789ABCDE\")",
                0, 2, 1);
    }

    /** TEXT of no bytes is TEXT: part() tells 0 of it, and NONE without. */
    @Says("2 its TEXT")
    static void noBytesAreNotNoText(Check check) {
        fits(check, TOLD, OTHER, 4, 2, 4);
        fits(check, "a", "a\"\"", 0, 2);
        fits(check, "a\"\"", "p(a \"\" a \" \")", 0, 2, 1);
    }

    @Says("4 its KIND")
    static void itsKind(Check check) {
        fits(check, TOLD, OTHER, 2, 4, 2, 4, 5, 9);
        fits(check, TOLD, OTHER, 1, 4, 1, 7);
        fits(check, TOLD, OTHER, 0, 4, 0);
        fits(check, "abcdefgh", "p(abcdefgh abcdefg)", 0, 4, 1);
    }

    @Says("8 its TURN")
    static void itsTurn(Check check) {
        fits(check, TOLD, OTHER, 5, 8, 5, 7, 8);
        fits(check, TOLD, OTHER, 0, 8, 0, 1, 2, 3, 4, 6, 9, 10);
    }

    @Says("16 its PARENT's KIND (none for the first)")
    static void itsParentsKind(Check check) {
        fits(check, TOLD, OTHER, 1, 16, 1, 2, 3, 7, 8);
        fits(check, TOLD, OTHER, 4, 16, 4, 5, 6, 9, 10);
        fits(check, TOLD, OTHER, 0, 16, 0);
        fits(check, "p", "q(r)", 0, 16, 0);
    }

    /** None is the same as none: the first part's PARENT's, and that of a PARENT without a NAME. */
    @Says("32 its PARENT's NAME")
    static void itsParentsName(Check check) {
        fits(check, "p#n(a)", "p#n(a b(c) d#n(e) f#m(g))", 1, 32, 1, 2, 4, 5, 6);
        fits(check, "p#n(a)", "p#n(a b(c) d#n(e) f#m(g))", 0, 32, 0, 3);
        fits(check, "p(a)", "p#n(a b(c))", 1, 32, 0, 3);
    }

    @Says("64 its LABEL's TEXT (none without)")
    static void itsLabelsText(Check check) {
        fits(check, TOLD, OTHER, 0, 64, 0, 1);
        fits(check, TOLD, OTHER, 2, 64, 2, 3, 4, 5, 6, 7);
        // Another LABEL with the same TEXT is as good; one with no byte is none.
        fits(check, "p(label\"L\" a)", "p(a label#n\"L\" a label\"M\" a label\"L\" a)", 2, 64, 3, 4, 7);
        fits(check, "p(a)", "p(label\"\" a label a label\"L\" a)", 1, 64, 0, 1, 2, 3, 4, 5);
    }

    @Says({"128 its PATH", "its PATH: of each PART from the first down to it KIND and TURN"})
    static void itsPath(Check check) {
        fits(check, TOLD, OTHER, 0, 128, 0);
        fits(check, TOLD, OTHER, 5, 128, 5);
        fits(check, TOLD, OTHER, 2, 128, 2);
        fits(check, "p(a(b) a(b c))", "p(a(b c) a(c b) a(b))", 2, 128, 2);
        fits(check, "p(a(b) a(b c))", "p(a(b c) a(c b) a(b))", 4, 128, 6);
        fits(check, "p(a(b) a(b c))", "p(a(b c) a(c b) a(b))", 5, 128, 5);
        fits(check, "p(a)", "q(a)", 1, 128);
        fits(check, "p(a)", "p(b)", 1, 128);
        fits(check, "p(a)", "p(p(a))", 1, 128);
        fits(check, "p(p(a))", "p(a)", 2, 128);
        fits(check, "p#n(a#m\"t\")", "p(x(y) a(z))", 1, 128, 3);
        fits(check, Check.deep(12), Check.deep(12), 11, 128, 11);
    }

    @Says({"MARKS of a PART: bits of what is looked at", "A PART FITS MARKS of another one if all these are the same"
            + " of both."})
    static void severalMarks(Check check) {
        String page = "p(a#n\"t\" a#n a\"t\" b#n\"t\")";
        fits(check, page, page, 1, 1 | 2, 1, 4);
        fits(check, page, page, 1, 1 | 4, 1, 2);
        fits(check, page, page, 1, 2 | 4, 1, 3);
        fits(check, page, page, 1, 1 | 2 | 4, 1);
        fits(check, page, page, 1, 2 | 8, 1, 4);
        fits(check, page, page, 1, 255, 1);
        fits(check, page, page, 0, 255, 0);
        fits(check, page, "p(a#n\"t\" a#n a\"t\"! b#n\"t\"(c))", 3, 255, 3);
    }

    @Says("How many PARTS of the other SHELF FIT MARKS (1 .. 255) of a PART")
    static void from1To255(Check check) {
        ClickBench x = Check.with("a(b b)", "c(d)");
        for (int marks = 1; marks <= 255; marks++) {
            check.due("itself FITS " + marks, x.fits(0, 0, marks, 0) >= 1, true);
        }
        check.due("none FITS", x.fits(0, 0, 4, 1), 0);
        check.due("none FITS all", x.fits(0, 0, 255, 1), 0);
        ClickBench y = Check.with(Check.wide(60));
        check.due("all sixty FIT", y.fits(0, 0, 1, 0), 60);
        check.due("59 FIT", y.fits(0, 1, 4, 0), 59);
    }

    @Says("NONE if one can't be")
    static void wrongMarks(Check check) {
        ClickBench x = Check.with("a(b b)");
        for (int marks : new int[] {0, -1, 256, 257, 260, 511, Check.MIN, Check.MAX}) {
            check.due("marks " + marks, x.fits(0, 1, marks, 0), -1);
        }
    }

    @Says("NONE if one can't be")
    static void noSuchPartOrPage(Check check) {
        ClickBench x = Check.with("a(b b)", "b");
        for (int part : new int[] {-1, 3, 60, Check.MIN, Check.MAX}) {
            check.due("part " + part, x.fits(0, part, 4, 0), -1);
        }
        check.due("that shelf has no part 1", x.fits(1, 1, 4, 0), -1);
        for (int shelf : new int[] {-1, 2, 3, 4, Check.MIN, Check.MAX}) {
            check.due("shelf " + shelf, x.fits(shelf, 0, 4, 0), -1);
            check.due("other " + shelf, x.fits(0, 0, 4, shelf), -1);
        }
    }
}
