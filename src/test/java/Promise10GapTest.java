/** Promise 10: gap. */
final class Promise10GapTest {
    public static void main(String[] args) {
        Promise.run(Promise10GapTest.class);
    }

    @Says({"GAP: true", "GAP (0 .. 100, 1 at first)"})
    static void from0To100(Check check) {
        ClickBench x = new ClickBench();
        for (int gap = 0; gap <= 100; gap++) {
            check.due("gap(" + gap + ")", x.gap(gap), true);
            check.due("about(0)", x.about(0), gap);
        }
        check.due("back to 0", x.gap(0), true);
        check.due("about(0)", x.about(0), 0);
    }

    @Says("false, doing nothing")
    static void outsideOfThem(Check check) {
        ClickBench x = new ClickBench();
        for (int before : new int[] {1, 0, 100, 42}) {
            x.gap(before);
            for (int gap : new int[] {-1, -100, 101, 102, 256, Check.MIN, Check.MAX}) {
                check.due("gap(" + gap + ")", x.gap(gap), false);
                check.due("about(0)", x.about(0), before);
            }
        }
    }

    @Says("false, doing nothing")
    static void aRefusedGapIsNotLookedAt(Check check) {
        ClickBench x = Check.with("p(x b y)", "p(x b y x\"t\" b y)");
        x.gap(101);
        check.due("NEXT costs 1 more", x.find(0, 2, 1), 1);
        x.gap(2);
        x.gap(-1);
        check.due("and GAP is 2", x.find(0, 2, 1), 0);
    }
}
