/** Promise 2: feed. */
final class Promise02FeedTest {
    private static final int BLANKS = 0x20202020;

    public static void main(String[] args) {
        Promise.run(Promise02FeedTest.class);
    }

    private static ClickBench full() {
        ClickBench x = new ClickBench();
        for (int n = 0; n < 80; n++) {
            x.feed(BLANKS, BLANKS, BLANKS, BLANKS, BLANKS);
        }
        return x;
    }

    @Says("Twenty bytes come behind those on the TAPE")
    static void behindWhatEndLeft(Check check) {
        ClickBench x = new ClickBench();
        check.due("feed", x.feed(0x61222021, 0x41422223, BLANKS, BLANKS, BLANKS), 20);
        check.due("end", x.end(3), 3);
        check.due("feed behind 3", x.feed(0x41424344, 0x45464722, BLANKS, BLANKS, BLANKS), 23);
        check.due("page", x.page(0), 1);
        check.due("TEXT", x.part(0, 0, 7), 8);
        for (int k = 0; k < 8; k++) {
            check.due("byte " + k, x.text(0, 0, 2, k), " ABCDEFG".charAt(k));
        }
    }

    @Says("Twenty bytes come behind those on the TAPE")
    static void onAnEmptyTapeAfterAPage(Check check) {
        ClickBench x = Check.with("p");
        check.due("feed", x.feed(0x62202020, BLANKS, BLANKS, BLANKS, BLANKS), 20);
        check.due("page", x.page(0), 1);
        check.due("KIND", x.text(0, 0, 0, 0), 'b');
    }

    @Says("of each number the highest first")
    static void allTwentyInOrder(Check check) {
        ClickBench x = new ClickBench();
        x.feed(0x61223031, 0x32333435, 0x36373839, 0x41424344, 0x45462220);
        check.due("page", x.page(0), 1);
        for (int k = 0; k < 16; k++) {
            check.due("byte " + k, x.text(0, 0, 2, k), "0123456789ABCDEF".charAt(k));
        }
    }

    @Says("of each number the highest first")
    static void byte255InEachPlace(Check check) {
        for (int place = 0; place < 20; place++) {
            int[] n = {BLANKS, BLANKS, BLANKS, BLANKS, BLANKS};
            n[place / 4] |= 255 << (24 - 8 * (place % 4));
            ClickBench x = new ClickBench();
            check.due("feed", x.feed(n[0], n[1], n[2], n[3], n[4]), 20);
            check.due("page", x.page(0), -1);
            check.due("no TOKEN", x.fault(0), 1);
            check.due("its place", x.fault(1), place);
        }
    }

    @Says("how many there are")
    static void countsUpTo1600(Check check) {
        ClickBench x = new ClickBench();
        for (int n = 20; n <= 1600; n += 20) {
            check.due("feed", x.feed(-1, Check.MIN, Check.MAX, 0, n), n);
        }
        check.due("about(3)", x.about(3), 1600);
    }

    @Says("NONE, and nothing comes, if there would be more than 1,600")
    static void refusedFrom1581On(Check check) {
        ClickBench x = full();
        for (int n = 1600; n > 1580; n--) {
            x.end(n);
            check.due("feed behind " + n, x.feed(0, 0, 0, 0, 0), -1);
            check.due("about(3)", x.about(3), n);
        }
    }

    @Says("NONE, and nothing comes, if there would be more than 1,600")
    static void takenAt1580(Check check) {
        ClickBench x = full();
        x.end(1580);
        check.due("feed behind 1580", x.feed(BLANKS, BLANKS, BLANKS, BLANKS, 0x20202061), 1600);
        check.due("page", x.page(0), 1);
    }

    @Says("NONE, and nothing comes, if there would be more than 1,600")
    static void refusedBytesAreNotOnTheTape(Check check) {
        ClickBench x = full();
        x.end(1570);
        x.feed(0x61202020, BLANKS, BLANKS, BLANKS, BLANKS);
        check.due("feed behind 1590", x.feed(-1, -1, -1, -1, -1), -1);
        check.due("page", x.page(0), 1);
        check.due("a feed then", x.feed(0, 0, 0, 0, 0), 20);
    }
}
