/** Promise 16: forget. */
final class Promise16ForgetTest {
    public static void main(String[] args) {
        Promise.run(Promise16ForgetTest.class);
    }

    @Says("No SAMPLES")
    static void noSamplesThen(Check check) {
        ClickBench x = Check.with("p(a#n b)");
        x.sample(0, 1);
        x.sample(0, 1);
        x.forget();
        check.due("about(1)", x.about(1), 0);
        check.due("stays", x.stays(), 0);
        check.due("learnt", x.learnt(), -1);
        check.due("seen", x.seen(0), -1);
    }

    @Says("No SAMPLES")
    static void whatComesThenIsNew(Check check) {
        ClickBench x = Check.with("p(a#n b)", "q(c c)");
        x.sample(0, 1);
        x.sample(1, 1);
        check.due("none of both", x.learnt(), -1);
        x.forget();
        check.due("the first again", x.sample(0, 1), 1);
        check.due("stays", x.stays(), 255);
        check.due("learnt", x.learnt(), 1);
        check.due("seen", x.seen(0), 1);
    }

    @Says("how many there were")
    static void howManyThereWere(Check check) {
        ClickBench x = Check.with("p");
        check.due("none", x.forget(), 0);
        for (int n = 1; n <= 6; n++) {
            for (int k = 0; k < n; k++) {
                x.sample(0, 0);
            }
            check.due("forget " + n, x.forget(), n);
            check.due("none then", x.forget(), 0);
        }
    }

    @Says("No SAMPLES")
    static void nothingElseGoes(Check check) {
        ClickBench x = Check.with("p");
        x.gap(5);
        x.sample(0, 0);
        x.act(true, 0, 0);
        Check.feed(x, "ab");
        x.forget();
        check.same(x, 5, 0, 1, 2);
        check.due("about(10)", x.about(10), 1);
    }
}
