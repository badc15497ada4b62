/** Promise 23: loop. */
final class Promise23LoopTest {
    public static void main(String[] args) {
        Promise.run(Promise23LoopTest.class);
    }

    @Says("An ACT: likewise of a LOOP of two PARTS of a SHELF")
    static void clickOrRead(Check check) {
        ClickBench x = Check.with("p(a\"x\" a\"y\" a\"z\")");
        check.due("a loop to click", x.loop(true, 0, 1, 3), 1);
        check.due("a loop to read", x.loop(false, 0, 2, 1), 2);
        check.due("about(2)", x.about(2), 2);
        check.due("run", x.run(0), 2);
        check.ran(x, 0, -1, 2, 3);
        check.clicks(x, 0, 0, 1, 0, 1);
        check.read(x, 0, "x");
        check.read(x, 2, "z");
    }

    /** The TURN that differs stands between others, neither of them 0, and the higher one is told first. */
    @Says("An ACT: likewise of a LOOP of two PARTS of a SHELF")
    static void fromWhereItBeginsByItsSteps(Check check) {
        String row = "r(a a\"x\")";
        ClickBench x = Check.with("p(q s s(" + row.repeat(4) + "))", "p(q s s(" + row.repeat(7) + ") s(" + row + "))");
        check.due("a loop", x.loop(true, 0, 15, 9), 1);
        check.due("run", x.run(1), 1);
        check.ran(x, 0, -1, 3, 0);
        for (int part = 0; part < x.about(11); part++) {
            boolean due = part == 9 || part == 15 || part == 21;
            check.due("clicks on " + part, x.part(1, part, 8), due ? 1 : 0);
        }
    }

    @Says("An ACT: likewise of a LOOP of two PARTS of a SHELF")
    static void asItWasThen(Check check) {
        ClickBench x = Check.with("p(r(a) r(a))", "p(r(a\"1\") r(a\"2\") r(a\"3\"))");
        x.loop(false, 0, 2, 4);
        Check.page(x, 0, "z");
        check.due("by the page that is gone", x.run(1), 1);
        check.ran(x, 0, -1, 0, 3);
        check.read(x, 2, "3");
    }

    @Says("An ACT: likewise of a LOOP of two PARTS of a SHELF")
    static void twentyAtMost(Check check) {
        ClickBench x = Check.with("p(a a)");
        for (int n = 1; n <= 19; n++) {
            check.due("act " + n, x.act(false, 0, 1), n);
        }
        check.due("loop 20", x.loop(false, 0, 1, 2), 20);
        check.due("loop 21", x.loop(false, 0, 1, 2), -1);
        check.due("act 21", x.act(false, 0, 1), -1);
        check.due("about(2)", x.about(2), 20);
        check.due("run", x.run(0), 20);
        check.ran(x, 0, -1, 0, 21);
    }

    @Says("NONE, too, if they make none")
    static void theyMakeNone(Check check) {
        ClickBench x = Check.with("p(a a(a) b b(c a))");
        x.act(true, 0, 1);
        check.due("the same", x.loop(true, 0, 1, 1), -1);
        check.due("KINDS", x.loop(true, 0, 1, 4), -1);
        check.due("one is deeper", x.loop(true, 0, 1, 3), -1);
        check.due("one is the PARENT", x.loop(true, 0, 0, 1), -1);
        check.due("KINDS above", x.loop(false, 0, 3, 7), -1);
        check.due("about(2)", x.about(2), 1);
    }

    @Says("NONE, too, if they make none")
    static void noSuchPart(Check check) {
        ClickBench x = Check.with("p(a a)", "p");
        for (int part : new int[] {-1, 3, 60, Check.MIN, Check.MAX}) {
            check.due("part a " + part, x.loop(true, 0, part, 1), -1);
            check.due("part b " + part, x.loop(false, 0, 1, part), -1);
        }
        check.due("that shelf has no parts 1 and 2", x.loop(true, 1, 1, 2), -1);
        for (int shelf : new int[] {-1, 2, 3, 4, Check.MIN, Check.MAX}) {
            check.due("shelf " + shelf, x.loop(true, shelf, 1, 2), -1);
        }
        check.due("about(2)", x.about(2), 0);
        check.due("none to do", x.run(0), 0);
    }
}
