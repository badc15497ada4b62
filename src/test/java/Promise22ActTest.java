/** Promise 22: act. */
final class Promise22ActTest {
    public static void main(String[] args) {
        Promise.run(Promise22ActTest.class);
    }

    @Says({"An ACT: a CLICK, or READ, of a PART", "CLICK, or READ."})
    static void clickOrRead(Check check) {
        ClickBench x = Check.with("p(a\"t\" b)");
        x.act(true, 0, 2);
        x.act(false, 0, 1);
        check.due("run", x.run(0), 2);
        check.ran(x, 0, -1, 1, 1);
        check.clicks(x, 0, 0, 0, 1);
        check.read(x, 0, "t");
    }

    @Says("how many")
    static void oneToTwenty(Check check) {
        ClickBench x = Check.with("p(a)");
        for (int n = 1; n <= 20; n++) {
            check.due("act " + n, x.act(n % 2 == 0, 0, n % 3 / 2), n);
            check.due("about(2)", x.about(2), n);
        }
    }

    @Says("NONE, doing nothing, if there is none such")
    static void noSuchPart(Check check) {
        ClickBench x = Check.with("p(a a)", "p");
        x.act(true, 0, 1);
        for (int part : new int[] {-1, 3, 60, Check.MIN, Check.MAX}) {
            check.due("click part " + part, x.act(true, 0, part), -1);
            check.due("read part " + part, x.act(false, 0, part), -1);
        }
        check.due("that shelf has no part 1", x.act(true, 1, 1), -1);
        for (int shelf : new int[] {-1, 2, 3, 4, Check.MIN, Check.MAX}) {
            check.due("shelf " + shelf, x.act(true, shelf, 0), -1);
        }
        check.due("about(2)", x.about(2), 1);
        check.due("one is done", x.run(0), 1);
    }

    @Says({"or there are 20", "ACTS, 20 at most, in the order in which they were told"})
    static void a21stDoesNothing(Check check) {
        ClickBench x = Check.with("p(a\"x\" b\"y\")");
        for (int n = 1; n <= 20; n++) {
            x.act(false, 0, 1);
        }
        check.due("a 21st", x.act(true, 0, 2), -1);
        check.due("a 21st to read", x.act(false, 0, 2), -1);
        check.due("about(2)", x.about(2), 20);
        check.due("run", x.run(0), 20);
        check.ran(x, 0, -1, 0, 20);
        check.read(x, 19, "x");
        check.due("clear", x.clear(), 20);
        check.due("the first again", x.act(true, 0, 2), 1);
    }

    @Says("in the order in which they were told")
    static void inTheirOrder(Check check) {
        ClickBench x = Check.with("p(a\"x\" b\"y\" c\"z\")");
        int[] order = {3, 1, 2, 1, 3};
        for (int part : order) {
            x.act(false, 0, part);
        }
        check.due("run", x.run(0), 5);
        for (int j = 0; j < order.length; j++) {
            check.read(x, j, "" + " xyz".charAt(order[j]));
        }
    }

    @Says("a PART as it was on its PAGE then, or a LOOP")
    static void asItWasThen(Check check) {
        ClickBench x = Check.with("p(a\"old\" a\"new\")", "p(b a\"old\" a\"new\")");
        x.act(false, 0, 1);
        Check.page(x, 0, "p(b\"new\")");
        check.due("by the part that is gone", x.run(1), 1);
        check.read(x, 0, "old");
        check.due("there is none such any more", x.run(0), 0);
        check.ran(x, 2, -1, 0, 0);
    }
}
