/** Promise 19: seen. */
final class Promise19SeenTest {
    public static void main(String[] args) {
        Promise.run(Promise19SeenTest.class);
    }

    @Says({"The PART of a SHELF that alone FITS what is LEARNT", "its number"})
    static void thePartThatAloneFits(Check check) {
        ClickBench x = Check.with("p(a#n b)", "p(b c(a#n))", "a#n", Check.wide(59).replace(")", "b#n)"));
        x.sample(0, 1);
        check.due("by its NAME", x.learnt(), 1);
        check.due("on its own page", x.seen(0), 1);
        check.due("elsewhere", x.seen(1), 3);
        check.due("the first part", x.seen(2), 0);
        check.due("the last of 60, of another KIND", x.seen(3), 59);
    }

    @Says("as it is of the first SAMPLE")
    static void asItIsOfTheFirstSample(Check check) {
        ClickBench x = Check.with("p(a#n b)", "p(b c(a#n))", "q(x#n)");
        x.sample(0, 1);
        x.sample(1, 3);
        check.due("learnt of both", x.learnt(), 1);
        check.due("seen", x.seen(2), 1);
        Check.page(x, 0, "q(a#m a#n)");
        check.due("as it was when it was told", x.seen(0), 2);
    }

    @Says("-2 if several do")
    static void several(Check check) {
        ClickBench x = Check.with("p(a#n b)", "p(a#n c#n)", "p(a#n c#n d#n)", "x#n(y#n)");
        x.sample(0, 1);
        check.due("two", x.seen(1), -2);
        check.due("three", x.seen(2), -2);
        check.due("the first and another", x.seen(3), -2);
        Check.page(x, 3, "p(" + "a#n ".repeat(59) + ")");
        check.due("fifty-nine", x.seen(3), -2);
    }

    @Says("-3 if none does")
    static void none(Check check) {
        ClickBench x = Check.with("p(a#n b)", "p(b)", "n");
        x.sample(0, 1);
        check.due("none", x.seen(1), -3);
        check.due("none on one of one part", x.seen(2), -3);
    }

    @Says("NONE: nothing is LEARNT")
    static void nothingIsLearnt(Check check) {
        ClickBench x = Check.with("p(a a)", "p(a(a))");
        check.due("no SAMPLE", x.seen(0), -1);
        x.sample(0, 2);
        x.sample(1, 2);
        check.due("no such set", x.learnt(), -1);
        check.due("not seen", x.seen(0), -1);
        x.forget();
        check.due("forgotten", x.seen(0), -1);
    }

    @Says("or there is no PAGE")
    static void noPage(Check check) {
        ClickBench x = Check.with("p(a#n b)");
        x.sample(0, 1);
        for (int shelf : new int[] {-1, 1, 2, 3, 4, Check.MIN, Check.MAX}) {
            check.due("seen(" + shelf + ")", x.seen(shelf), -1);
        }
    }
}
