/** Promises 13 to 19: fits, fit, sample, forget, stays, learnt and seen. */
final class MarksTest {
    private static final Check check = new Check();

    public static void main(String[] args) {
        eachMark();
        sets();
        wrongFits();
        samplesCounted();
        staysOverVersions();
        learntSets();
        learntFromPagesAsTheyWere();
        seenParts();
        check.finish();
    }

    private static void fits(ClickBench x, int part, int marks, int... due) {
        String call = "fits(0, " + part + ", " + marks + ", 1)";
        check.due(call, x.fits(0, part, marks, 1), due.length);
        for (int k = 0; k < due.length; k++) {
            check.due(call + " fit " + k, x.fit(0, part, marks, 1, k), due[k]);
        }
        check.due(call + " fit behind", x.fit(0, part, marks, 1, due.length), -1);
        check.due(call + " fit -1", x.fit(0, part, marks, 1, -1), -1);
    }

    private static void eachMark() {
        //                       0  1            2      3  4     5
        ClickBench x = Check.with("p(label\"L\" a#n\"t\" b(a\"\" a))",
                //0   1        2      3  4      5  6  7          8  9    10
                "p(label\"L\" a#n\"t\" b(a#m\"\" a b) label\"M\" b(a#n b)) ");
        fits(x, 2, 1, 2, 9);
        fits(x, 3, 1, 0, 1, 3, 5, 6, 7, 8, 10);
        fits(x, 2, 2, 2);
        fits(x, 4, 2, 4);
        fits(x, 5, 2, 0, 3, 5, 6, 8, 9, 10);
        fits(x, 2, 4, 2, 4, 5, 9);
        fits(x, 1, 4, 1, 7);
        fits(x, 0, 4, 0);
        fits(x, 5, 8, 5, 7, 8);
        fits(x, 0, 8, 0, 1, 2, 3, 4, 6, 9, 10);
        fits(x, 0, 16, 0);
        fits(x, 1, 16, 1, 2, 3, 7, 8);
        fits(x, 4, 16, 4, 5, 6, 9, 10);
        fits(x, 0, 64, 0, 1);
        fits(x, 2, 64, 2, 3, 4, 5, 6, 7);
        fits(x, 0, 128, 0);
        fits(x, 5, 128, 5);
        fits(x, 2, 128, 2);
        ClickBench y = Check.with("p#n(a)", "p#n(a b(c) d#n(e))");
        fits(y, 1, 32, 1, 2, 4, 5);
        // None is the same as none: the first part's parent, and a parent without a name.
        fits(y, 0, 32, 0, 3);
        ClickBench z = Check.with("p(a(b) a(b c))", "p(a(b c) a(c b) a(b))");
        fits(z, 2, 128, 2);
        fits(z, 4, 128, 6);
        fits(z, 5, 128, 5);
        ClickBench w = Check.with("p(a)", "p(b)");
        fits(w, 1, 128);
        fits(w, 1, 4);
        fits(w, 1, 255);
    }

    private static void sets() {
        ClickBench x = Check.with("p(a#n\"t\" a#n a\"t\" b#n\"t\")", "p(a#n\"t\" a#n a\"t\" b#n\"t\")");
        fits(x, 1, 1 | 2, 1, 4);
        fits(x, 1, 1 | 4, 1, 2);
        fits(x, 1, 2 | 4, 1, 3);
        fits(x, 1, 1 | 2 | 4, 1);
        fits(x, 1, 255, 1);
        fits(x, 1, 2 | 8, 1, 4);
    }

    private static void wrongFits() {
        ClickBench x = Check.with("a(b b)", "b");
        check.due("marks 0", x.fits(0, 1, 0, 0), -1);
        check.due("marks 256", x.fits(0, 1, 256, 0), -1);
        check.due("marks -1", x.fits(0, 1, -1, 0), -1);
        check.due("marks 260", x.fits(0, 1, 260, 0), -1);
        check.due("no part", x.fits(0, 3, 4, 0), -1);
        check.due("part -1", x.fits(0, -1, 4, 0), -1);
        check.due("no page", x.fits(2, 0, 4, 0), -1);
        check.due("no other page", x.fits(0, 1, 4, 2), -1);
        check.due("no such shelf", x.fits(4, 0, 4, 0), -1);
        check.due("no such other shelf", x.fits(0, 1, 4, -1), -1);
        check.due("fit: marks 0", x.fit(0, 1, 0, 0, 0), -1);
        check.due("fit: marks 256", x.fit(0, 1, 256, 0, 0), -1);
        check.due("fit: no part", x.fit(0, 3, 4, 0, 0), -1);
        check.due("fit: no page", x.fit(0, 1, 4, 3, 0), -1);
        check.due("fit: no such shelf", x.fit(0, 1, 4, 4, 0), -1);
        check.due("fit max", x.fit(0, 1, 4, 0, Integer.MAX_VALUE), -1);
        check.due("fit min", x.fit(0, 1, 4, 0, Integer.MIN_VALUE), -1);
        check.due("a page without any", x.fits(0, 0, 4, 1), 0);
    }

    private static void samplesCounted() {
        ClickBench x = Check.with("a(b b)");
        check.due("no part", x.sample(0, 3), -1);
        check.due("part -1", x.sample(0, -1), -1);
        check.due("no page", x.sample(1, 0), -1);
        check.due("no shelf", x.sample(4, 0), -1);
        check.due("none yet", x.about(1), 0);
        for (int n = 1; n <= 6; n++) {
            check.due("sample " + n, x.sample(0, 1), n);
        }
        check.due("a seventh", x.sample(0, 2), -1);
        check.due("still six", x.about(1), 6);
        check.due("it does nothing", x.stays(), 255);
        check.due("forget", x.forget(), 6);
        check.due("forgotten", x.about(1), 0);
        check.due("forget again", x.forget(), 0);
        check.due("stays", x.stays(), 0);
        check.due("learnt", x.learnt(), -1);
        check.due("sample anew", x.sample(0, 2), 1);
        check.due("forget one", x.forget(), 1);
    }

    private static void stays(String a, int part, String b, int otherPart, int due) {
        ClickBench x = Check.with(a, b);
        x.sample(0, part);
        check.due("stays of one", x.stays(), 255);
        x.sample(1, otherPart);
        check.due("stays <" + a + "> <" + b + ">", x.stays(), due);
        x.sample(0, part);
        check.due("stays of three", x.stays(), due);
    }

    private static void staysOverVersions() {
        stays("p(a)", 1, "p(a)", 1, 255);
        stays("p(a)", 1, "p(a#n)", 1, 255 - 1);
        stays("p(a)", 1, "p(a\"\")", 1, 255 - 2);
        stays("p(a)", 1, "p(b)", 1, 255 - 4 - 128);
        stays("p(a)", 1, "p(a a)", 2, 255 - 8 - 128);
        stays("p(a)", 1, "q(a)", 1, 255 - 16 - 128);
        stays("p(a)", 1, "p#n(a)", 1, 255 - 32);
        stays("p(a)", 1, "p(label\"x\" a)", 2, 255 - 64);
        stays("p(label\"x\" a)", 2, "p(label\"y\" a)", 2, 255 - 64);
        stays("p(label\"x\" a)", 2, "p(label\"\" a)", 2, 255 - 64);
        stays("p(label\"x\" a)", 2, "p(label\"x\" b a)", 3, 255);
        stays("p(q(a))", 2, "p(q q(a))", 3, 255 - 128);
        stays("p(a)", 0, "p(a)", 1, 1 + 2 + 8 + 32 + 64);
    }

    private static int learnt(String text, int part) {
        ClickBench x = Check.with(text);
        x.sample(0, part);
        return x.learnt();
    }

    private static void learntSets() {
        check.due("alone: the least number", learnt("p", 0), 1);
        check.due("by NAME", learnt("p(a#n b)", 1), 1);
        check.due("by TEXT", learnt("p(a\"t\" b)", 1), 2);
        check.due("by KIND", learnt("p(a b)", 2), 4);
        check.due("by TURN", learnt("p(a b a)", 3), 8);
        check.due("by the parent's KIND", learnt("p(a(b) c(b) b)", 4), 16);
        check.due("by the parent's NAME", learnt("p(a#n(b) a(b) c(d(b) b))", 2), 32);
        check.due("by the LABEL", learnt("p(q(b b) q(b label\"M\" b))", 7), 64);
        check.due("by the PATH", learnt("p(a(b b) a(b b) a(b b))", 5), 128);
        check.due("one before two, the least number", learnt("p(a#n a\"t\" a#n\"t\" b#n\"t\")", 3), 8);
        ClickBench x = Check.with("p(a#n b)", "p(b(a#n) b)");
        x.sample(0, 1);
        x.sample(1, 2);
        check.due("what stays", x.stays() & 16, 0);
        check.due("by what stays", x.learnt(), 1);
        ClickBench y = Check.with("p(a#n b)", "p(a#n c#n)");
        y.sample(0, 1);
        y.sample(1, 1);
        check.due("each page alone would do, or not", y.learnt(), 4);
        ClickBench z = Check.with("p(a a)", "p(a(a))");
        z.sample(0, 2);
        z.sample(1, 2);
        check.due("no such set", z.learnt(), -1);
        check.due("not seen either", z.seen(0), -1);
        ClickBench w = Check.with("p(a(c) b(c c))", "p(a(c c) b(c c))");
        w.sample(0, 2);
        w.sample(1, 2);
        check.due("PATH", w.learnt(), 128);
        ClickBench v = Check.with("p(a(c) b(c c))", "p(x a(c c) b(c(c) c))");
        v.sample(0, 2);
        v.sample(1, 3);
        check.due("PATH before two marks", v.learnt(), 128);
        ClickBench u = Check.with("p(a(c) b(c c))", "p(q(a(c c) b(c(c) c)))");
        u.sample(0, 2);
        u.sample(1, 3);
        check.due("two marks, the PATH being another", u.learnt(), 8 + 16);
    }

    private static void learntFromPagesAsTheyWere() {
        ClickBench x = Check.with("p(a#n b)", "p(a#n a#n)");
        x.sample(0, 1);
        Check.page(x, 0, "p(z z(a#n) a#n)");
        check.due("as it was told", x.learnt(), 1);
        check.due("on the page that came, several", x.seen(0), -2);
        check.due("on another page, several", x.seen(1), -2);
        Check.page(x, 0, "p(z a#n)");
        check.due("on the next, one", x.seen(0), 2);
    }

    private static void seenParts() {
        ClickBench x = Check.with("p(a#n b)", "p(b c(a#n))", "p(b)");
        check.due("nothing is learnt", x.seen(0), -1);
        x.sample(0, 1);
        check.due("seen on its page", x.seen(0), 1);
        check.due("seen elsewhere", x.seen(1), 3);
        check.due("none does", x.seen(2), -3);
        check.due("no page", x.seen(3), -1);
        check.due("shelf -1", x.seen(-1), -1);
        check.due("shelf 4", x.seen(4), -1);
        Check.page(x, 2, "p(a#n c#n)");
        check.due("several do", x.seen(2), -2);
        x.sample(1, 3);
        check.due("learnt of both", x.learnt(), 1);
        x.forget();
        check.due("forgotten", x.seen(0), -1);
    }
}
