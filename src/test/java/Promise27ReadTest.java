/** Promise 27: read. */
final class Promise27ReadTest {
    public static void main(String[] args) {
        Promise.run(Promise27ReadTest.class);
    }

    @Says({"Byte k of the j-th TEXT that were READ in it", "READ puts its TEXT (of none: no byte) behind those read"})
    static void bytes(Check check) {
        ClickBench x = Check.with("p(a\"0123456789ABCDEF\" b\" \" c\"~\")");
        x.act(false, 0, 1);
        x.act(false, 0, 2);
        x.act(false, 0, 3);
        x.act(false, 0, 1);
        x.run(0);
        check.read(x, 0, "0123456789ABCDEF");
        check.read(x, 1, " ");
        check.read(x, 2, "~");
        check.read(x, 3, "0123456789ABCDEF");
    }

    @Says("READ puts its TEXT (of none: no byte) behind those read")
    static void ofNoneNoByte(Check check) {
        ClickBench x = Check.with("p(a b\"\" c\"x\")");
        x.act(false, 0, 1);
        x.act(false, 0, 2);
        x.act(false, 0, 3);
        x.run(0);
        check.due("all are counted", x.ran(3), 3);
        check.read(x, 0, "");
        check.read(x, 1, "");
        check.read(x, 2, "x");
    }

    @Says("(40 of a RUN are kept; all are counted)")
    static void fortyAreKept(Check check) {
        StringBuilder page = new StringBuilder("p(");
        for (int n = 0; n < 41; n++) {
            page.append("a\"").append(n).append("\" ");
        }
        ClickBench x = Check.with(page.append(")").toString());
        x.loop(false, 0, 1, 2);
        check.due("run", x.run(0), 1);
        check.due("all are counted", x.ran(3), 41);
        for (int j = 0; j < 40; j++) {
            check.read(x, j, "" + j);
        }
        check.due("the 41st is not kept", x.read(40, 0), -1);
    }

    @Says("(40 of a RUN are kept; all are counted)")
    static void exactlyForty(Check check) {
        ClickBench x = Check.with("p(a\"x\" a\"y\")");
        for (int n = 0; n < 20; n++) {
            x.loop(false, 0, 1, 2);
        }
        x.run(0);
        check.due("all are counted", x.ran(3), 40);
        check.read(x, 38, "x");
        check.read(x, 39, "y");
        check.due("there is no 41st", x.read(40, 0), -1);
    }

    @Says("NONE if there is none such")
    static void noSuchText(Check check) {
        ClickBench x = Check.with("p(a\"x\" a\"y\")");
        check.due("without a run", x.read(0, 0), -1);
        x.run(0);
        check.due("of a run without READ", x.read(0, 0), -1);
        x.loop(false, 0, 1, 2);
        x.run(0);
        for (int j : new int[] {-1, 2, 3, 39, 40, 41, Check.MIN, Check.MAX}) {
            check.due("read(" + j + ", 0)", x.read(j, 0), -1);
        }
    }

    @Says("NONE if there is none such")
    static void noSuchByte(Check check) {
        ClickBench x = Check.with("p(a\"xyz\" b\"0123456789ABCDEF\")");
        x.act(false, 0, 1);
        x.act(false, 0, 2);
        x.run(0);
        for (int k : new int[] {-1, 3, 4, 8, 16, Check.MIN, Check.MAX}) {
            check.due("read(0, " + k + ")", x.read(0, k), -1);
        }
        for (int k : new int[] {-1, 16, 17, Check.MIN, Check.MAX}) {
            check.due("read(1, " + k + ")", x.read(1, k), -1);
        }
    }

    @Says("that were READ in it")
    static void inTheLatestRun(Check check) {
        ClickBench x = Check.with("p(a\"x\" a\"y\")", "p(a\"z\")", "q");
        x.loop(false, 0, 1, 2);
        x.run(0);
        check.read(x, 1, "y");
        check.due("no page", x.run(3), -1);
        check.read(x, 1, "y");
        x.run(1);
        check.read(x, 0, "z");
        check.due("the one before is gone", x.read(1, 0), -1);
        x.run(2);
        check.due("nothing was read", x.read(0, 0), -1);
    }

    @Says("that were READ in it")
    static void afterThePageIsGone(Check check) {
        ClickBench x = Check.with("p(a\"x\" a\"y\")");
        x.loop(false, 0, 1, 2);
        x.run(0);
        Check.page(x, 0, "p(a\"v\" a\"w\")");
        x.clear();
        check.read(x, 0, "x");
        check.read(x, 1, "y");
    }

    @Says("that were READ in it")
    static void beforeItStopped(Check check) {
        ClickBench x = Check.with("p(a\"x\" b!)");
        x.act(false, 0, 1);
        x.act(true, 0, 2);
        x.act(false, 0, 1);
        check.due("run", x.run(0), 1);
        check.read(x, 0, "x");
        check.due("what comes behind is not read", x.read(1, 0), -1);
    }
}
