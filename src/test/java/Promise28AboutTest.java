/** Promise 28: about. */
final class Promise28AboutTest {
    public static void main(String[] args) {
        Promise.run(Promise28AboutTest.class);
    }

    @Says("What 0: GAP")
    static void gap(Check check) {
        ClickBench x = new ClickBench();
        check.due("at first", x.about(0), 1);
        x.gap(100);
        check.due("100", x.about(0), 100);
        x.gap(0);
        check.due("0", x.about(0), 0);
    }

    @Says("1: SAMPLES")
    static void samples(Check check) {
        ClickBench x = Check.with("p");
        for (int n = 0; n <= 6; n++) {
            check.due("samples", x.about(1), n);
            x.sample(0, 0);
        }
        check.due("six at most", x.about(1), 6);
    }

    @Says("2: ACTS")
    static void acts(Check check) {
        ClickBench x = Check.with("p(a a)");
        for (int n = 0; n <= 20; n++) {
            check.due("acts", x.about(2), n);
            int told = n % 2 == 0 ? x.act(true, 0, 1) : x.loop(true, 0, 1, 2);
            check.due("told", told, n < 20 ? n + 1 : -1);
        }
        check.due("twenty at most", x.about(2), 20);
        x.run(0);
        check.due("a run leaves them", x.about(2), 20);
    }

    @Says("3: bytes on the TAPE")
    static void bytes(Check check) {
        ClickBench x = new ClickBench();
        check.due("none", x.about(3), 0);
        Check.feed(x, "abcd");
        check.due("four", x.about(3), 4);
        x.page(0);
        check.due("none then", x.about(3), 0);
        Check.feed(x, " ".repeat(1600));
        check.due("all", x.about(3), 1600);
    }

    @Says("10 + s: PARTS on SHELF s (0 without)")
    static void parts(Check check) {
        ClickBench x = new ClickBench();
        for (int s = 0; s < 4; s++) {
            check.due("without", x.about(10 + s), 0);
            Check.page(x, s, s == 3 ? Check.wide(60) : Check.deep(1 + s));
        }
        check.due("one", x.about(10), 1);
        check.due("two", x.about(11), 2);
        check.due("three", x.about(12), 3);
        check.due("sixty", x.about(13), 60);
    }

    @Says("NONE for another what")
    static void anotherWhat(Check check) {
        ClickBench x = Check.with("p", "p", "p", "p");
        for (int what : new int[] {-1, 4, 5, 6, 7, 8, 9, 14, 15, 20, Check.MIN, Check.MIN + 10, Check.MAX}) {
            check.due("about(" + what + ")", x.about(what), -1);
        }
    }
}
