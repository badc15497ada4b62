/** Promise 3: end. */
final class Promise03EndTest {
    public static void main(String[] args) {
        Promise.run(Promise03EndTest.class);
    }

    private static ClickBench fed() {
        ClickBench x = new ClickBench();
        x.feed(0x61626364, 0x65666768, 0x20202020, 0x20202020, 0x20202020);
        return x;
    }

    @Says("The TAPE has its first n bytes: n")
    static void theFirstBytesStay(Check check) {
        ClickBench x = fed();
        check.due("end(2)", x.end(2), 2);
        check.due("about(3)", x.about(3), 2);
        check.due("page", x.page(3), 1);
        check.due("byte 0", x.text(3, 0, 0, 0), 'a');
        check.due("byte 1", x.text(3, 0, 0, 1), 'b');
        check.due("byte 2", x.text(3, 0, 0, 2), -1);
    }

    @Says("The TAPE has its first n bytes: n")
    static void noneOfThem(Check check) {
        ClickBench x = fed();
        check.due("end(0)", x.end(0), 0);
        check.due("about(3)", x.about(3), 0);
        check.due("end(0) again", x.end(0), 0);
        check.due("page", x.page(0), -1);
        check.due("its place", x.fault(1), 0);
    }

    @Says("The TAPE has its first n bytes: n")
    static void allOfThem(Check check) {
        ClickBench x = fed();
        check.due("end(20)", x.end(20), 20);
        check.due("about(3)", x.about(3), 20);
        check.due("page", x.page(0), 1);
        ClickBench y = new ClickBench();
        Check.feed(y, " ".repeat(1599) + "a");
        check.due("end(1600)", y.end(1600), 1600);
        check.due("page of 1600", y.page(0), 1);
    }

    @Says("NONE, doing nothing, if it has not so many")
    static void notSoMany(Check check) {
        ClickBench x = fed();
        check.due("end(21)", x.end(21), -1);
        check.due("end(1600)", x.end(1600), -1);
        check.due("end(max)", x.end(Check.MAX), -1);
        check.due("about(3)", x.about(3), 20);
        check.due("page", x.page(0), 1);
        check.due("KIND is whole", x.text(0, 0, 0, 7), 'h');
        check.due("end(1) of none", x.end(1), -1);
        check.due("about(3)", x.about(3), 0);
    }

    @Says("NONE, doing nothing, if it has not so many")
    static void whatWasCutIsGone(Check check) {
        ClickBench x = fed();
        x.end(2);
        check.due("end(3)", x.end(3), -1);
        check.due("end(20)", x.end(20), -1);
        check.due("about(3)", x.about(3), 2);
        ClickBench y = new ClickBench();
        Check.feed(y, " ".repeat(1600));
        check.due("a full tape has no 1601", y.end(1601), -1);
        check.due("about(3)", y.about(3), 1600);
    }

    @Says("or n is below 0")
    static void below0(Check check) {
        ClickBench x = fed();
        check.due("end(-1)", x.end(-1), -1);
        check.due("end(-20)", x.end(-20), -1);
        check.due("end(min)", x.end(Check.MIN), -1);
        check.due("about(3)", x.about(3), 20);
        check.due("page", x.page(0), 1);
        check.due("end(-1) of none", x.end(-1), -1);
    }
}
