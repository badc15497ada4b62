/** Promise 24: clear. */
final class Promise24ClearTest {
    public static void main(String[] args) {
        Promise.run(Promise24ClearTest.class);
    }

    @Says("No ACTS")
    static void noActsThen(Check check) {
        ClickBench x = Check.with("p(a a)");
        x.act(true, 0, 1);
        x.loop(true, 0, 1, 2);
        x.clear();
        check.due("about(2)", x.about(2), 0);
        check.due("run", x.run(0), 0);
        check.ran(x, 0, -1, 0, 0);
        check.clicks(x, 0, 0, 0, 0);
    }

    @Says("No ACTS")
    static void whatComesThenIsNew(Check check) {
        ClickBench x = Check.with("p(a\"x\" b\"y\" b\"z\")");
        x.act(true, 0, 1);
        x.act(true, 0, 1);
        x.clear();
        check.due("the first again", x.loop(false, 0, 2, 3), 1);
        check.due("run", x.run(0), 1);
        check.ran(x, 0, -1, 0, 2);
        check.read(x, 0, "y");
        x.clear();
        check.due("an act behind a loop", x.act(false, 0, 1), 1);
        check.due("run", x.run(0), 1);
        check.ran(x, 0, -1, 0, 1);
        check.read(x, 0, "x");
    }

    @Says("how many there were")
    static void howManyThereWere(Check check) {
        ClickBench x = Check.with("p(a a)");
        check.due("none", x.clear(), 0);
        for (int n = 1; n <= 20; n++) {
            for (int k = 0; k < n; k++) {
                x.act(false, 0, 1);
            }
            check.due("clear " + n, x.clear(), n);
        }
        check.due("none then", x.clear(), 0);
    }

    @Says("No ACTS")
    static void nothingElseGoes(Check check) {
        ClickBench x = Check.with("p\"t\"");
        x.gap(5);
        x.sample(0, 0);
        x.act(false, 0, 0);
        x.run(0);
        Check.feed(x, "ab");
        x.clear();
        check.same(x, 5, 1, 0, 2);
        check.ran(x, 0, -1, 0, 1);
        check.read(x, 0, "t");
    }
}
