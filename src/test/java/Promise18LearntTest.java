/** Promise 18: learnt, and what of the term MARKS says of LEARNT. */
final class Promise18LearntTest {
    public static void main(String[] args) {
        Promise.run(Promise18LearntTest.class);
    }

    private static void learnt(Check check, String text, int part, int due) {
        ClickBench x = Check.with(text);
        x.sample(0, part);
        check.due("learnt of " + part + " in <" + text + ">", x.learnt(), due);
    }

    private static void learnt(Check check, String a, int part, String b, int otherPart, int due) {
        ClickBench x = Check.with(a, b);
        x.sample(0, part);
        x.sample(1, otherPart);
        check.due("learnt of " + part + " in <" + a + ">, " + otherPart + " in <" + b + ">", x.learnt(), due);
        ClickBench y = Check.with(a, b);
        y.sample(1, otherPart);
        y.sample(0, part);
        check.due("learnt the other way round", y.learnt(), due);
    }

    @Says("LEARNT, as bits")
    static void eachMarkAlone(Check check) {
        learnt(check, "p(a#n b)", 1, 1);
        learnt(check, "p(a\"t\" b)", 1, 2);
        learnt(check, "p(a b)", 2, 4);
        learnt(check, "p(a b a)", 3, 8);
        learnt(check, "p(a(b) c(b) b)", 4, 16);
        learnt(check, "p(a#n(b) a(b) c(d(b) b))", 2, 32);
        learnt(check, "p(q(b b) q(b label\"M\" b))", 7, 64);
        learnt(check, "p(a(b b) a(b b) a(b b))", 5, 128);
    }

    @Says("the least set (one or more; fewest, then the least number)")
    static void oneOrMore(Check check) {
        // No MARK is needed where there is no other PART; yet the least set is of one.
        learnt(check, "p", 0, 1);
        learnt(check, "p", 0, "p#n", 0, 2);
        learnt(check, "p", 0, "p#n\"t\"", 0, 4);
    }

    @Says("the least set (one or more; fewest, then the least number)")
    static void theFewest(Check check) {
        // NAME and KIND (5) would do, too, and so would NAME and TEXT (3).
        learnt(check, "p(x(a#n b#n) x(a b#n c) a#n)", 2, 128);
        learnt(check, "p(a#n a\"t\" a#n\"t\" b#n\"t\")", 3, 8);
    }

    @Says("the least set (one or more; fewest, then the least number)")
    static void thenTheLeastNumber(Check check) {
        learnt(check, "p(a#n\"t\" b)", 1, 1);
        learnt(check, "p(a\"t\" b)", 1, 2);
        // NAME and KIND (5), TEXT and KIND (6) would do as well.
        learnt(check, "p(a#n\"t\" b#n c\"t\" a)", 1, "p(a a#n\"t\" b#n c\"t\")", 2, 3);
        learnt(check, "p(a#n\"t\" b#n\"t\" a)", 1, "p(a a#n\"t\" b#n\"t\")", 2, 5);
        learnt(check, "p(a\"t\" b\"t\" a)", 1, "p(a a\"t\" b\"t\")", 2, 6);
        learnt(check, "p(a(c) b(c c))", 2, "p(q(a(c c) b(c(c) c)))", 3, 8 + 16);
    }

    @Says("the least set (one or more; fewest, then the least number)")
    static void threeMarks(Check check) {
        learnt(check, "p(a#n\"t\" a#n a\"t\" b#n\"t\")", 1, "p(a a#n\"t\" a#n a\"t\" b#n\"t\")", 2, 1 + 2 + 4);
    }

    @Says("of the MARKS that are the same for all SAMPLES")
    static void onlyOfThoseThatAreTheSame(Check check) {
        learnt(check, "p(a#n b)", 1, "p(a#m b)", 1, 4);
        learnt(check, "p(a#n b)", 1, "p(b(a#n) b)", 2, 1);
        learnt(check, "p(a#n\"t\" b)", 1, "p(a#m\"t\" b)", 1, 2);
        learnt(check, "p(a(c) b(c c))", 2, "p(x a(c c) b(c(c) c))", 3, 128);
    }

    @Says("by which each SAMPLE's PAGE (as it was) has no other PART that FITS")
    static void onEachSamplesPage(Check check) {
        learnt(check, "p(a#n b)", 1, "p(a#n c#n)", 1, 4);
        learnt(check, "p(a#n c#n)", 1, "p(x(a#n a))", 2, 1 + 4);
        learnt(check, "p(a(c) b(c c))", 2, "p(a(c c) b(c c))", 2, 128);
    }

    @Says("by which each SAMPLE's PAGE (as it was) has no other PART that FITS")
    static void asThePageWas(Check check) {
        ClickBench x = Check.with("p(a#n b)");
        x.sample(0, 1);
        Check.page(x, 0, "p(a#n a#n)");
        check.due("as it was", x.learnt(), 1);
        ClickBench y = Check.with("p(a#n a#n)");
        y.sample(0, 1);
        int before = y.learnt();
        Check.page(y, 0, "p(a#n b)");
        check.due("as it was when more FITTED", y.learnt(), before);
        check.due("by its TURN and KIND, or PATH", before, 128);
    }

    @Says("by which each SAMPLE's PAGE (as it was) has no other PART that FITS")
    static void anotherSampleOfThePageIsAnotherPart(Check check) {
        ClickBench x = Check.with("p(a#n b#n c)");
        x.sample(0, 1);
        check.due("of one", x.learnt(), 4);
        x.sample(0, 2);
        check.due("of both", x.learnt(), -1);
        x.sample(0, 2);
        check.due("of both, and one again", x.learnt(), -1);
    }

    @Says({"NONE if none", "None, if there is no such set, or no SAMPLE."})
    static void noSuchSet(Check check) {
        learnt(check, "p(a a)", 2, "p(a(a))", 2, -1);
        learnt(check, "p", 0, "r#m(label\"L\" q q#n\"t\")", 3, -1);
        ClickBench x = Check.with("p(a a)");
        x.sample(0, 1);
        check.due("of one", x.learnt(), 128);
        x.sample(0, 2);
        check.due("of two beside one another", x.learnt(), -1);
    }

    @Says({"NONE if none", "None, if there is no such set, or no SAMPLE."})
    static void noSample(Check check) {
        ClickBench x = Check.with("p");
        check.due("at first", x.learnt(), -1);
        x.sample(0, 0);
        check.due("of one", x.learnt(), 1);
        x.forget();
        check.due("after forget", x.learnt(), -1);
    }
}
