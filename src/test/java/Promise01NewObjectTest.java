/** Promise 1: a new object. */
final class Promise01NewObjectTest {
    public static void main(String[] args) {
        Promise.run(Promise01NewObjectTest.class);
    }

    @Says("`NONE = -1`: There is none.")
    static void theConstant(Check check) {
        check.due("NONE", ClickBench.NONE, -1);
    }

    @Says("No PAGES")
    static void noPages(Check check) {
        ClickBench x = new ClickBench();
        for (int s = 0; s < 4; s++) {
            check.due("about(10 + s)", x.about(10 + s), 0);
            check.due("part", x.part(s, 0, 3), -1);
            check.due("text", x.text(s, 0, 0, 0), -1);
            check.due("far", x.far(s, 0, s, 0), -1);
            check.due("cost", x.cost(s, 0, s, 0), -1);
            check.due("find", x.find(s, 0, s), -1);
            check.due("fits", x.fits(s, 0, 4, s), -1);
            check.due("fit", x.fit(s, 0, 4, s, 0), -1);
            check.due("sample", x.sample(s, 0), -1);
            check.due("seen", x.seen(s), -1);
            check.due("rows", x.rows(s, 0, 1, s), -1);
            check.due("row", x.row(s, 0, 1, s, 0), -1);
            check.due("act", x.act(true, s, 0), -1);
            check.due("loop", x.loop(true, s, 0, 1), -1);
            check.due("run", x.run(s), -1);
        }
        check.same(x, 1, 0, 0, 0);
    }

    @Says("No PAGES")
    static void anotherObjectsPagesAreNotItsOwn(Check check) {
        ClickBench x = Check.with("p(a a)");
        x.gap(9);
        x.sample(0, 1);
        x.act(true, 0, 1);
        x.run(0);
        x.find(0, 0, 0);
        Check.feed(x, "abc");
        ClickBench y = new ClickBench();
        check.same(y, 1, 0, 0, 0);
        check.due("about(10)", y.about(10), 0);
        check.due("found(0)", y.found(0), -1);
        check.due("ran(0)", y.ran(0), -1);
        check.same(x, 9, 1, 1, 3);
    }

    @Says("SAMPLES")
    static void noSamples(Check check) {
        ClickBench x = Check.with("p");
        check.due("about(1)", x.about(1), 0);
        check.due("stays", x.stays(), 0);
        check.due("learnt", x.learnt(), -1);
        check.due("seen", x.seen(0), -1);
        check.due("forget", x.forget(), 0);
    }

    @Says("ACTS")
    static void noActs(Check check) {
        ClickBench x = Check.with("p");
        check.due("about(2)", x.about(2), 0);
        check.due("run", x.run(0), 0);
        check.due("clear", x.clear(), 0);
    }

    @Says({"GAP 1", "1 at first"})
    static void gapIsOne(Check check) {
        ClickBench x = Check.with("p(x b y)", "p(x b y x\"t\" b y)", "p(x b y x b y)");
        check.due("about(0)", x.about(0), 1);
        check.due("NEXT costs 1 more", x.find(0, 2, 1), 1);
        check.found(x, 2, 5, 0, 1);
        check.due("NEXT costs no more", x.find(0, 2, 2), 0);
        check.found(x, 2, 5, 0, 0);
    }

    @Says("An object is used for at most 512 calls after it has been made")
    static void the512thCallIsAnsweredToo(Check check) {
        ClickBench x = new ClickBench();
        for (int call = 1; call <= 508; call += 2) {
            check.due("feed", x.feed(0x61202020, 0x20202020, 0x20202020, 0x20202020, 0x20202020), 20);
            check.due("page", x.page(call & 3), 1);
        }
        check.due("call 509", x.act(true, 1, 0), 1);
        check.due("call 510", x.run(3), 1);
        check.due("call 511", x.ran(2), 1);
        check.due("call 512", x.part(3, 0, 8), 1);
    }
}
