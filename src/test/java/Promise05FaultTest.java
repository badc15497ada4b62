/** Promise 5: fault, and what of the term PAGES says what FAULTS are. */
final class Promise05FaultTest {
    private static final String[] TOKENS = {"w", "#", "\"t\"", "!", "(", ")", ""};

    /** What was read, and for each of the TOKENS (the last is the end) whether it can stand there. */
    private static final String[][] CAN_STAND = {
        {"", "w"},
        {"a", "# \"t\" ! ( end"},
        {"a#", "w"},
        {"a#n", "\"t\" ! ( end"},
        {"a\"t\"", "! ( end"},
        {"a!", "( end"},
        {"a(", "w"},
        {"a(b", "w # \"t\" ! ( )"},
        {"a(b#", "w"},
        {"a(b#n", "w \"t\" ! ( )"},
        {"a(b\"t\"", "w ! ( )"},
        {"a(b!", "w ( )"},
        {"a(b(c", "w # \"t\" ! ( )"},
        {"a(b(c)", "w )"},
        {"a(b(c)d", "w # \"t\" ! ( )"},
        {"a(b)", "end"},
        {"a#n\"t\"!(b#n\"t\"!)", "end"},
    };

    public static void main(String[] args) {
        Promise.run(Promise05FaultTest.class);
    }

    @Says({"Of the latest page() that was not -2", "what 0: its FAULT (0), 1: its place (NONE)"})
    static void ofTheLatestPage(Check check) {
        ClickBench x = new ClickBench();
        faultIs(check, x, 0, -1);
        Check.page(x, 0, "a(b");
        faultIs(check, x, 2, 3);
        Check.page(x, 3, "ab ?");
        faultIs(check, x, 1, 3);
        Check.page(x, 1, "a");
        faultIs(check, x, 0, -1);
        Check.page(x, 1, ")");
        faultIs(check, x, 2, 0);
    }

    @Says("Of the latest page() that was not -2")
    static void notOfOneWithoutAShelf(Check check) {
        ClickBench x = new ClickBench();
        Check.page(x, 0, "a(b");
        for (int shelf : Check.NO_SHELVES) {
            Check.feed(x, "?");
            x.page(shelf);
            faultIs(check, x, 2, 3);
            x.end(0);
        }
        Check.page(x, 0, "a");
        Check.page(x, -1, "?");
        faultIs(check, x, 0, -1);
        ClickBench y = new ClickBench();
        Check.page(y, 4, "?");
        faultIs(check, y, 0, -1);
    }

    private static void faultIs(Check check, ClickBench x, int kind, int place) {
        check.due("fault(0)", x.fault(0), kind);
        check.due("fault(1)", x.fault(1), place);
    }

    @Says("NONE for another what")
    static void anotherWhat(Check check) {
        ClickBench x = new ClickBench();
        for (int round = 0; round < 2; round++) {
            for (int what : new int[] {-1, 2, 3, Check.MIN, Check.MAX}) {
                check.due("fault(" + what + ")", x.fault(what), -1);
            }
            Check.page(x, 0, "a(b");
        }
    }

    @Says("FAULTS, the first by its place")
    static void theFirstOfTwo(Check check) {
        check.fault("a) ?", 2, 1);
        check.fault("a ? )", 1, 2);
        check.fault("a(b c ? d", 1, 6);
        check.fault("a(b \"x\" \"y\" \"z", 2, 8);
        // The quotes pair up from the left: TEXT "z) ", KIND x, TEXT " ", KIND y, and one left over.
        check.fault("a(b \"z) \"x\" \"y\"", 1, 14);
        check.fault("p(" + "b ".repeat(60) + "?", 2, 120);
        check.fault("p(" + "b ".repeat(59) + "?", 1, 120);
        check.fault("p(" + "b ".repeat(59), 2, 120);
        check.fault("a(".repeat(12) + "? b", 1, 24);
        check.fault("a(".repeat(12) + "b ?", 2, 24);
    }

    @Says("bytes from 0")
    static void bytesFrom0(Check check) {
        check.fault("?", 1, 0);
        check.fault(")", 2, 0);
        check.fault(" \n ?", 1, 3);
        check.fault("a\n\n)", 2, 3);
        check.fault(" ".repeat(1599) + "?", 1, 1599);
        check.fault("a" + " ".repeat(1598) + "b", 2, 1599);
    }

    @Says("the end: the text's length")
    static void theEnd(Check check) {
        check.fault("", 2, 0);
        check.fault(" ", 2, 1);
        check.fault("  \n ", 2, 4);
        check.fault(" ".repeat(1600), 2, 1600);
        check.fault("a(", 2, 2);
        check.fault("a( ", 2, 3);
        check.fault("a(b", 2, 3);
        check.fault("a(b\n", 2, 4);
        check.fault("a(b(c)", 2, 6);
        check.fault("a#", 2, 2);
        check.fault("a(" + " ".repeat(1598), 2, 1600);
    }

    @Says("1 no TOKEN")
    static void eachByteAlone(Check check) {
        for (int sign = 0; sign < 256; sign++) {
            String text = "" + (char) sign;
            if (sign >= 'a' && sign <= 'z') {
                check.right(text, 1);
            } else if (sign == 32 || sign == 10) {
                check.fault(text, 2, 1);
            } else if ("#!()".indexOf(sign) >= 0) {
                check.fault(text, 2, 0);
            } else {
                check.fault(text, 1, 0);
            }
        }
    }

    @Says("1 no TOKEN")
    static void noTokenAnywhere(Check check) {
        for (String[] row : CAN_STAND) {
            check.fault(row[0] + " ?", 1, row[0].length() + 1);
            check.fault(row[0] + " \"t", 1, row[0].length() + 1);
            check.fault(row[0] + (char) 200, 1, row[0].length());
        }
    }

    @Says("2 one that can't stand there")
    static void eachTokenBehindEach(Check check) {
        for (String[] row : CAN_STAND) {
            for (String token : TOKENS) {
                boolean can = (" " + row[1] + " ").contains(" " + (token.isEmpty() ? "end" : token) + " ");
                String text = row[0] + " " + token;
                ClickBench x = new ClickBench();
                int parts = Check.page(x, 0, text);
                if (token.isEmpty() && can) {
                    check.due("page of <" + text + ">", parts > 0, true);
                } else if (!can) {
                    check.due("fault(0) of <" + text + ">", x.fault(0), 2);
                    check.due("fault(1) of <" + text + ">", x.fault(1), row[0].length() + 1);
                } else if (parts < 0) {
                    // It can stand there, so what is wrong is that the text ends behind it.
                    check.due("fault(0) of <" + text + ">", x.fault(0), 2);
                    check.due("fault(1) of <" + text + ">", x.fault(1), text.length());
                }
            }
        }
    }

    @Says("a 61st PART, one within 12 others: at its KIND")
    static void the61stPart(Check check) {
        check.fault(Check.wide(61), 2, 120);
        check.fault("p(" + "b ".repeat(58) + "b(  ccc))", 2, 2 + 2 * 58 + 4);
        check.fault("p(" + "b ".repeat(59) + "\n ccc#n\"t\"!)", 2, 122);
        check.right("p(" + "b ".repeat(58) + "b#n\"t\"!)", 60);
    }

    @Says("a 61st PART, one within 12 others: at its KIND")
    static void oneWithinTwelveOthers(Check check) {
        check.fault("a(".repeat(12) + "b" + ")".repeat(12), 2, 24);
        check.fault("a(".repeat(12) + "  b" + ")".repeat(12), 2, 26);
        // The parenthesis itself can stand there; what is wrong is what comes within it.
        check.fault("a(".repeat(12) + ")", 2, 24);
        check.fault("a(".repeat(12), 2, 24);
        check.fault("a(".repeat(11) + "b c(d)" + ")".repeat(11), 2, 26);
    }

    @Says("anything behind the page")
    static void behindThePage(Check check) {
        for (String token : new String[] {"w", "#", "\"t\"", "!", "(", ")", "(c)", "#n", "\"\""}) {
            check.fault("a(b)" + token, 2, 4);
            check.fault("a(b) \n" + token, 2, 6);
        }
        check.fault("a)", 2, 1);
        check.fault("a b", 2, 2);
        check.fault("a#n b", 2, 4);
        check.fault("a\"t\"b", 2, 4);
        check.fault("a!b", 2, 2);
    }
}
