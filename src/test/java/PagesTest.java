/** Promises 1 to 7 and 28: the new object, the tape, pages, faults and parts. */
final class PagesTest {
    private static final Check check = new Check();

    public static void main(String[] args) {
        newObject();
        feeding();
        ending();
        pagesAndShelves();
        faults();
        limits();
        partsOfAPage();
        textsOfAPage();
        aboutAll();
        check.finish();
    }

    private static void newObject() {
        ClickBench x = new ClickBench();
        check.due("NONE", ClickBench.NONE, -1);
        check.due("new about(0)", x.about(0), 1);
        for (int what = 1; what <= 3; what++) {
            check.due("new about(" + what + ")", x.about(what), 0);
        }
        for (int shelf = 0; shelf < 4; shelf++) {
            check.due("new about(10 + s)", x.about(10 + shelf), 0);
            check.due("new part", x.part(shelf, 0, 3), -1);
            check.due("new run", x.run(shelf), -1);
            check.due("new seen", x.seen(shelf), -1);
        }
        check.due("new fault(0)", x.fault(0), 0);
        check.due("new fault(1)", x.fault(1), -1);
        check.due("new stays", x.stays(), 0);
        check.due("new learnt", x.learnt(), -1);
        check.due("new forget", x.forget(), 0);
        check.due("new clear", x.clear(), 0);
        for (int what = -1; what <= 4; what++) {
            check.due("new found", x.found(what), -1);
            check.due("new ran", x.ran(what), -1);
        }
        check.due("new read", x.read(0, 0), -1);
    }

    private static void feeding() {
        ClickBench x = new ClickBench();
        check.due("feed", x.feed(0x61222021, 0x41422223, 0x20202020, 0x20202020, 0x20202020), 20);
        check.due("end", x.end(3), 3);
        check.due("feed behind 3", x.feed(0x41424344, 0x45464722, 0x20202020, 0x20202020, 0x20202020), 23);
        check.due("page", x.page(0), 1);
        check.due("highest byte first", x.text(0, 0, 2, 1), 'A');
        check.due("lowest byte of a number", x.text(0, 0, 2, 4), 'D');
        check.due("next number", x.text(0, 0, 2, 5), 'E');
        for (int n = 20; n <= 1600; n += 20) {
            check.due("feed up to " + n, x.feed(0, 0, 0, 0, 0), n);
        }
        check.due("feed on a full tape", x.feed(0, 0, 0, 0, 0), -1);
        check.due("full tape", x.about(3), 1600);
        check.due("end(1581)", x.end(1581), 1581);
        check.due("feed beyond 1600", x.feed(0, 0, 0, 0, 0), -1);
        check.due("tape after that", x.about(3), 1581);
        check.due("end(1580)", x.end(1580), 1580);
        check.due("feed to 1600", x.feed(0, 0, 0, 0, 0), 1600);
    }

    private static void ending() {
        ClickBench x = new ClickBench();
        check.due("end(0)", x.end(0), 0);
        check.due("end(1) of nothing", x.end(1), -1);
        x.feed(0x61626364, 0, 0, 0, 0);
        check.due("end(-1)", x.end(-1), -1);
        check.due("end(21)", x.end(21), -1);
        check.due("end(max)", x.end(Integer.MAX_VALUE), -1);
        check.due("end(min)", x.end(Integer.MIN_VALUE), -1);
        check.due("tape stays", x.about(3), 20);
        check.due("end(20)", x.end(20), 20);
        check.due("end(2)", x.end(2), 2);
        check.due("about(3)", x.about(3), 2);
        check.due("page", x.page(3), 1);
        check.due("first two bytes", x.text(3, 0, 0, 1), 'b');
        check.due("no third", x.text(3, 0, 0, 2), -1);
    }

    private static void pagesAndShelves() {
        ClickBench x = new ClickBench();
        Check.feed(x, "a(b c)");
        check.due("page(-1)", x.page(-1), -2);
        check.due("page(4)", x.page(4), -2);
        check.due("tape stays", x.about(3), 6);
        check.due("page(0)", x.page(0), 3);
        check.due("tape is empty", x.about(3), 0);
        x.act(true, 0, 1);
        x.run(0);
        check.due("clicks", x.part(0, 1, 8), 1);
        check.due("a fault", Check.page(x, 0, "a(b c"), -1);
        check.due("tape is empty after a fault", x.about(3), 0);
        check.due("fault(0)", x.fault(0), 2);
        check.due("fault(1)", x.fault(1), 5);
        check.due("the shelf stays", x.about(10), 3);
        check.due("its clicks, too", x.part(0, 1, 8), 1);
        check.due("page(7)", x.page(7), -2);
        check.due("fault(0) of the one before", x.fault(0), 2);
        check.due("a page in its place", Check.page(x, 0, "a(b c)"), 3);
        check.due("no clicks", x.part(0, 1, 8), 0);
        check.due("fault(0) of none", x.fault(0), 0);
        check.due("fault(1) of none", x.fault(1), -1);
        check.due("fault(2)", x.fault(2), -1);
        check.due("fault(-1)", x.fault(-1), -1);
        check.due("another shelf", Check.page(x, 3, "z"), 1);
        check.due("shelf 0 is still there", x.about(10), 3);
        check.due("shelf 3", x.about(13), 1);
    }

    private static void fault(String text, int kind, int place) {
        ClickBench x = new ClickBench();
        check.due("page of <" + text + ">", Check.page(x, 1, text), -1);
        check.due("fault(0) of <" + text + ">", x.fault(0), kind);
        check.due("fault(1) of <" + text + ">", x.fault(1), place);
        check.due("shelf after <" + text + ">", x.about(11), 0);
    }

    private static void right(String text, int parts) {
        ClickBench x = new ClickBench();
        check.due("page of <" + text + ">", Check.page(x, 1, text), parts);
        check.due("fault(0) of <" + text + ">", x.fault(0), 0);
        check.due("fault(1) of <" + text + ">", x.fault(1), -1);
    }

    private static void faults() {
        fault("", 2, 0);
        fault("  \n ", 2, 4);
        fault("a(", 2, 2);
        fault("a( ", 2, 3);
        fault("a()", 2, 2);
        fault("a(b", 2, 3);
        fault("a)", 2, 1);
        fault("(", 2, 0);
        fault("#", 2, 0);
        fault("!", 2, 0);
        fault("\"x\"", 2, 0);
        fault("a#", 2, 2);
        fault("a##", 2, 2);
        fault("a#b#c", 2, 3);
        fault("a\"x\"#c", 2, 4);
        fault("a\"x\"\"y\"", 2, 4);
        fault("a!\"x\"", 2, 2);
        fault("a!!", 2, 2);
        fault("a#!", 2, 2);
        fault("a(b)!", 2, 4);
        fault("a(b)#c", 2, 4);
        fault("a(b)(c)", 2, 4);
        fault("a(b)\"x\"", 2, 4);
        fault("a b", 2, 2);
        fault("a#b c", 2, 4);
        fault("a(b))", 2, 4);
        fault("a(b) c", 2, 5);
        fault("a(b(c)", 2, 6);
        fault("a?", 1, 1);
        fault("A", 1, 0);
        fault("a9", 1, 1);
        fault("a\t", 1, 1);
        fault("a\r\n", 1, 1);
        fault("a" + (char) 0, 1, 1);
        fault("a" + (char) 233, 1, 1);
        fault("a" + (char) 255, 1, 1);
        fault("a \"x", 1, 2);
        fault("a \"", 1, 2);
        fault("a \"x\ny\"", 1, 2);
        fault("a \"" + (char) 127 + "\"", 1, 2);
        fault("a \"" + (char) 31 + "\"", 1, 2);
        fault("a \"12345678901234567\"", 1, 2);
        fault("a(b) ?", 1, 5);
        fault("a) ?", 2, 1);
        fault("a ? )", 1, 2);
        fault("a(b c ? d", 1, 6);
        right("a", 1);
        right("\n a \n", 1);
        right("a#b\"c\"!(d)", 2);
        right("a # b \"c\" ! ( d )", 2);
        right("a!(b!c!)", 3);
        right("a\"\"(b\"\"c#x(d))", 4);
        right("a \"1234567890123456\"", 1);
        right("a \" ~!#()\"", 1);
    }

    private static void limits() {
        right("abcdefgh", 1);
        // A word is as long as can be, and that is 8: the ninth letter begins the next one.
        fault("abcdefghi", 2, 8);
        right("p(abcdefghi)", 3);
        right("p#abcdefgh", 1);
        fault("p#abcdefghi", 2, 10);
        right("p(" + Check.repeat("b ", 59) + ")", 60);
        fault("p(" + Check.repeat("b ", 60) + ")", 2, 120);
        fault("p(" + Check.repeat("b ", 60) + "?", 2, 120);
        fault("p(" + Check.repeat("b ", 59) + "?", 1, 120);
        right(Check.repeat("a(", 11) + "b" + Check.repeat(")", 11), 12);
        fault(Check.repeat("a(", 12) + "b" + Check.repeat(")", 12), 2, 24);
        fault(Check.repeat("a(", 12) + ")", 2, 24);
        right(Check.repeat(" ", 1599) + "a", 1);
        fault(Check.repeat(" ", 1600), 2, 1600);
    }

    private static final String SHOP = "page(label\"Name\" field#wish list(row(link\"a\" label\"\" link)"
            + " label row!(button\"\"! link\"b\" link)) label\"x\")";

    private static void partsOfAPage() {
        ClickBench x = Check.with(SHOP);
        //               0   1   2  3  4  5  6  7  8  9 10 11 12
        int[][] due = {{-1, 0, 0, 0, 3, 4, 4, 4, 3, 3, 9, 9, 9, 0},
            {-1, -1, 1, 2, -1, -1, 5, 6, 4, 8, -1, 10, 11, 3},
            {-1, 2, 3, 13, 8, 6, 7, -1, 9, -1, 11, 12, -1, -1},
            {0, 0, 0, 0, 0, 0, 0, 1, 0, 1, 0, 0, 1, 1},
            {-1, -1, 1, 1, 1, 1, 1, 1, 1, 1, 1, 1, 1, 1},
            {0, 1, 1, 1, 2, 3, 3, 3, 2, 2, 3, 3, 3, 1},
            {0, 0, 0, 0, 0, 0, 0, 0, 0, 1, 1, 0, 0, 0},
            {-1, 4, -1, -1, -1, 1, 0, -1, -1, -1, 0, 1, -1, 1},
            {0, 0, 0, 0, 0, 0, 0, 0, 0, 0, 0, 0, 0, 0},
            {13, 0, 0, 9, 3, 0, 0, 0, 0, 3, 0, 0, 0, 0}};
        check.due("parts", x.about(10), 14);
        for (int what = 0; what < due.length; what++) {
            for (int part = 0; part < 14; part++) {
                check.due("part(0, " + part + ", " + what + ")", x.part(0, part, what), due[what][part]);
            }
        }
        check.due("what -1", x.part(0, 1, -1), -1);
        check.due("what 10", x.part(0, 1, 10), -1);
        check.due("part -1", x.part(0, -1, 3), -1);
        check.due("part 14", x.part(0, 14, 3), -1);
        check.due("part max", x.part(0, Integer.MAX_VALUE, 3), -1);
        check.due("shelf 1", x.part(1, 0, 3), -1);
        check.due("shelf -1", x.part(-1, 0, 3), -1);
        check.due("shelf 4", x.part(4, 0, 3), -1);
        ClickBench y = Check.with("a(label\"one\"(b) c label\"\" d label\"two\" label(e))");
        int[] labels = {-1, -1, 1, 1, 1, 1, 1, 6, 6};
        for (int part = 0; part < labels.length; part++) {
            check.due("label of " + part, y.part(0, part, 4), labels[part]);
        }
    }

    private static void textsOfAPage() {
        ClickBench x = Check.with("abcdefgh#zyxwvuts\"0123456789 ~!#()\"!(a \"\" b#q)");
        for (int k = 0; k < 8; k++) {
            check.due("KIND byte " + k, x.text(0, 0, 0, k), "abcdefgh".charAt(k));
            check.due("NAME byte " + k, x.text(0, 0, 1, k), "zyxwvuts".charAt(k));
        }
        for (int k = 0; k < 16; k++) {
            check.due("TEXT byte " + k, x.text(0, 0, 2, k), "0123456789 ~!#()".charAt(k));
        }
        check.due("KIND byte 8", x.text(0, 0, 0, 8), -1);
        check.due("NAME byte 8", x.text(0, 0, 1, 8), -1);
        check.due("TEXT byte 16", x.text(0, 0, 2, 16), -1);
        for (int what = 0; what < 3; what++) {
            check.due("byte -1", x.text(0, 0, what, -1), -1);
            check.due("byte min", x.text(0, 0, what, Integer.MIN_VALUE), -1);
            check.due("byte max", x.text(0, 0, what, Integer.MAX_VALUE), -1);
        }
        check.due("what 3", x.text(0, 0, 3, 0), -1);
        check.due("what -1", x.text(0, 0, -1, 0), -1);
        check.due("short KIND", x.text(0, 1, 0, 1), -1);
        check.due("no NAME", x.text(0, 1, 1, 0), -1);
        check.due("empty TEXT", x.text(0, 1, 2, 0), -1);
        check.due("short NAME", x.text(0, 2, 1, 0), 'q');
        check.due("short NAME's end", x.text(0, 2, 1, 1), -1);
        check.due("no TEXT", x.text(0, 2, 2, 0), -1);
        check.due("no PART", x.text(0, 3, 0, 0), -1);
        check.due("no PAGE", x.text(1, 0, 0, 0), -1);
        check.due("no SHELF", x.text(-1, 0, 0, 0), -1);
    }

    private static void aboutAll() {
        ClickBench x = Check.with("a(b b)", "c");
        x.gap(7);
        x.sample(0, 1);
        x.sample(0, 2);
        x.act(true, 0, 1);
        x.loop(false, 0, 1, 2);
        x.act(false, 0, 1);
        Check.feed(x, "abcd");
        int[] due = {7, 2, 3, 4, -1, -1, -1, -1, -1, -1, 3, 1, 0, 0, -1};
        for (int what = 0; what < due.length; what++) {
            check.due("about(" + what + ")", x.about(what), due[what]);
        }
        check.due("about(-1)", x.about(-1), -1);
        check.due("about(max)", x.about(Integer.MAX_VALUE), -1);
        check.due("about(min)", x.about(Integer.MIN_VALUE), -1);
    }
}
