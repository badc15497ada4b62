/** Promise 15: sample. */
final class Promise15SampleTest {
    public static void main(String[] args) {
        Promise.run(Promise15SampleTest.class);
    }

    @Says({"A SAMPLE more: how many", "LEARNT from up to 6 SAMPLES"})
    static void oneToSix(Check check) {
        ClickBench x = Check.with("a(b b)", "a");
        for (int n = 1; n <= 6; n++) {
            check.due("sample " + n, x.sample(n & 1, 0), n);
            check.due("about(1)", x.about(1), n);
        }
    }

    @Says("A SAMPLE more: how many")
    static void theSamePartMayComeTwice(Check check) {
        ClickBench x = Check.with("a(b b)");
        check.due("once", x.sample(0, 1), 1);
        check.due("twice", x.sample(0, 1), 2);
        check.due("about(1)", x.about(1), 2);
    }

    @Says("NONE, doing nothing: there is no such PART")
    static void noSuchPart(Check check) {
        ClickBench x = Check.with("a(b b)", "a");
        x.sample(0, 1);
        for (int part : new int[] {-1, 3, 60, Check.MIN, Check.MAX}) {
            check.due("part " + part, x.sample(0, part), -1);
        }
        check.due("that shelf has no part 1", x.sample(1, 1), -1);
        for (int shelf : new int[] {-1, 2, 3, 4, Check.MIN, Check.MAX}) {
            check.due("shelf " + shelf, x.sample(shelf, 0), -1);
        }
        check.due("about(1)", x.about(1), 1);
        check.due("stays", x.stays(), 255);
    }

    @Says("or there are 6")
    static void aSeventhDoesNothing(Check check) {
        ClickBench x = Check.with("a(b b)", "z");
        for (int n = 1; n <= 6; n++) {
            x.sample(0, 1);
        }
        int learnt = x.learnt();
        check.due("a seventh", x.sample(0, 2), -1);
        check.due("one of another page", x.sample(1, 0), -1);
        check.due("about(1)", x.about(1), 6);
        check.due("stays", x.stays(), 255);
        check.due("learnt", x.learnt(), learnt);
        check.due("forget", x.forget(), 6);
        check.due("the first again", x.sample(0, 2), 1);
    }

    @Says("(a PART on a SHELF each, as it was when it was told)")
    static void asItWas(Check check) {
        ClickBench x = Check.with("p(a#n b)");
        x.sample(0, 1);
        Check.page(x, 0, "q(c#m\"t\" c#m\"t\")");
        check.due("the first is still a#n", x.sample(0, 2), 2);
        // Of both the LABEL's TEXT (none) and the PARENT's NAME (none) are the same.
        check.due("stays", x.stays(), 32 + 64);
        Check.page(x, 0, "p(a#n)");
        check.due("as it was", x.sample(0, 1), 3);
        check.due("stays", x.stays(), 32 + 64);
    }
}
