/** Promise 17: stays. */
final class Promise17StaysTest {
    public static void main(String[] args) {
        Promise.run(Promise17StaysTest.class);
    }

    private static void stays(Check check, String a, int part, String b, int otherPart, int due) {
        ClickBench x = Check.with(a, b);
        x.sample(0, part);
        check.due("stays of one", x.stays(), 255);
        x.sample(1, otherPart);
        check.due("stays <" + a + "> <" + b + ">", x.stays(), due);
        x.sample(0, part);
        check.due("stays of three", x.stays(), due);
    }

    @Says("The MARKS that are the same for all SAMPLES, as bits")
    static void eachBit(Check check) {
        stays(check, "p(a)", 1, "p(a)", 1, 255);
        stays(check, "p(a)", 1, "p(a#n)", 1, 255 - 1);
        stays(check, "p(a)", 1, "p(a\"\")", 1, 255 - 2);
        stays(check, "p(a)", 1, "p(b)", 1, 255 - 4 - 128);
        stays(check, "p(a)", 1, "p(a a)", 2, 255 - 8 - 128);
        stays(check, "p(a)", 1, "q(a)", 1, 255 - 16 - 128);
        stays(check, "p(a)", 1, "p#n(a)", 1, 255 - 32);
        stays(check, "p(a)", 1, "p(label\"x\" a)", 2, 255 - 64);
        stays(check, "p(label\"x\" a)", 2, "p(label\"y\" a)", 2, 255 - 64);
        stays(check, "p(label\"x\" a)", 2, "p(label\"\" a)", 2, 255 - 64);
        stays(check, "p(label\"x\" a)", 2, "p(label\"x\" b a)", 3, 255);
        stays(check, "p(q(a))", 2, "p(q q(a))", 3, 255 - 128);
        stays(check, "p(a)", 0, "p(a)", 1, 1 + 2 + 8 + 32 + 64);
    }

    @Says("The MARKS that are the same for all SAMPLES, as bits")
    static void eachOfSixMayTakeOneAway(Check check) {
        ClickBench x = Check.with("p(a)", "p(a#n)", "p(a\"t\")", "p#m(a)");
        x.sample(0, 1);
        check.due("one", x.stays(), 255);
        x.sample(0, 1);
        check.due("two", x.stays(), 255);
        x.sample(1, 1);
        check.due("three", x.stays(), 255 - 1);
        x.sample(2, 1);
        check.due("four", x.stays(), 255 - 1 - 2);
        x.sample(3, 1);
        check.due("five", x.stays(), 255 - 1 - 2 - 32);
        Check.page(x, 3, "p(b a)");
        x.sample(3, 1);
        check.due("six", x.stays(), 255 - 1 - 2 - 32 - 4 - 128);
    }

    @Says("The MARKS that are the same for all SAMPLES, as bits")
    static void noneMayBeTheSame(Check check) {
        ClickBench x = Check.with("p", "r#m(label\"L\" q q#n\"t\")");
        x.sample(0, 0);
        x.sample(1, 3);
        check.due("stays", x.stays(), 0);
        check.due("about(1)", x.about(1), 2);
    }

    @Says("0 without a SAMPLE")
    static void withoutASample(Check check) {
        ClickBench x = Check.with("p");
        check.due("at first", x.stays(), 0);
        x.sample(0, 1);
        check.due("after one that was refused", x.stays(), 0);
        x.sample(0, 0);
        x.forget();
        check.due("after forget", x.stays(), 0);
    }
}
