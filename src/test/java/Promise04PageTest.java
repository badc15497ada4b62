/** Promise 4: page, and what of the term PAGES says which texts are one. */
final class Promise04PageTest {
    public static void main(String[] args) {
        Promise.run(Promise04PageTest.class);
    }

    @Says("The TAPE (empty then)")
    static void theTapeIsEmptyThen(Check check) {
        ClickBench x = new ClickBench();
        check.due("page", Check.page(x, 0, "a(b)"), 2);
        check.due("about(3)", x.about(3), 0);
        check.due("a page of nothing", x.page(0), -1);
        check.due("the end of nothing", x.fault(1), 0);
    }

    @Says("The TAPE (empty then)")
    static void theTapeIsEmptyAfterAFaultToo(Check check) {
        ClickBench x = new ClickBench();
        check.due("page", Check.page(x, 0, "a(b"), -1);
        check.due("about(3)", x.about(3), 0);
        check.due("the next page", Check.page(x, 0, "c"), 1);
        check.due("KIND", x.text(0, 0, 0, 0), 'c');
    }

    @Says({"is a PAGE on a SHELF", "SHELVES 0 .. 3 hold a PAGE each, or none"})
    static void eachShelfHoldsItsOwn(Check check) {
        ClickBench x = new ClickBench();
        for (int shelf = 3; shelf >= 0; shelf--) {
            check.due("none yet", x.about(10 + shelf), 0);
            check.due("page", Check.page(x, shelf, Check.wide(2 + shelf)), 2 + shelf);
        }
        for (int shelf = 0; shelf < 4; shelf++) {
            check.due("about(10 + s)", x.about(10 + shelf), 2 + shelf);
        }
        check.due("another in its place", Check.page(x, 2, "z"), 1);
        check.due("shelf 1", x.about(11), 3);
        check.due("shelf 2", x.about(12), 1);
        check.due("shelf 3", x.about(13), 5);
    }

    @Says("(no CLICKS)")
    static void noClicks(Check check) {
        ClickBench x = Check.with("a(b c)");
        x.act(true, 0, 1);
        x.run(0);
        check.clicks(x, 0, 0, 1, 0);
        check.due("the same text again", Check.page(x, 0, "a(b c)"), 3);
        check.clicks(x, 0, 0, 0, 0);
    }

    @Says("how many PARTS")
    static void howManyParts(Check check) {
        for (int parts = 1; parts <= 60; parts++) {
            check.right(parts == 1 ? "p" : Check.wide(parts), parts);
        }
    }

    @Says("NONE: a FAULT (the SHELF stays)")
    static void theShelfStaysAfterAFault(Check check) {
        ClickBench x = Check.with("a(b#n c)", "z");
        x.act(true, 0, 1);
        x.run(0);
        check.due("a fault", Check.page(x, 0, "q(r s t"), -1);
        check.due("about(10)", x.about(10), 3);
        check.due("NAME", x.text(0, 1, 1, 0), 'n');
        check.clicks(x, 0, 0, 1, 0);
        check.due("shelf 1", x.about(11), 1);
        check.due("a fault on a shelf without", Check.page(x, 2, "?"), -1);
        check.due("it has none", x.about(12), 0);
        check.due("it has no part", x.part(2, 0, 3), -1);
    }

    @Says("-2, and the TAPE stays: no such SHELF")
    static void noSuchShelf(Check check) {
        ClickBench x = new ClickBench();
        Check.feed(x, "a(b c)");
        for (int shelf : Check.NO_SHELVES) {
            check.due("page(" + shelf + ")", x.page(shelf), -2);
            check.due("about(3)", x.about(3), 6);
        }
        check.due("page(0)", x.page(0), 3);
        check.due("also with nothing on the tape", x.page(4), -2);
        check.due("about(10)", x.about(10), 3);
    }

    @Says("A text of at most 1,600 bytes")
    static void aTextOf1600Bytes(Check check) {
        check.right(" ".repeat(1599) + "a", 1);
        check.right("a" + " ".repeat(1599), 1);
        check.right("a(" + " ".repeat(1596) + "b)", 2);
        // 59 parts with the longest KIND and TEXT, and blanks for the rest.
        String rows = "abcdefgh\"0123456789ABCDEF\"".repeat(59);
        check.right("p(" + rows + " ".repeat(1600 - 3 - rows.length()) + ")", 60);
    }

    @Says("page = part.")
    static void justOnePart(Check check) {
        check.right("a", 1);
        check.fault("", 2, 0);
        check.fault("a a", 2, 2);
        check.fault("a(b) a", 2, 5);
    }

    @Says("part = KIND [# NAME] [TEXT] [!] [( part {part} )]")
    static void eachPieceMayBeThereOrNot(Check check) {
        for (int pieces = 0; pieces < 32; pieces++) {
            boolean name = (pieces & 1) != 0;
            boolean text = (pieces & 2) != 0;
            boolean harm = (pieces & 4) != 0;
            int under = (pieces & 8) == 0 ? 0 : (pieces & 16) == 0 ? 1 : 3;
            String itself = "k" + (name ? "#n" : "") + (text ? "\"t\"" : "") + (harm ? "!" : "");
            ClickBench x = new ClickBench();
            String whole = itself + new String[] {"", "(a)", "", "(a(b)c)"}[under];
            check.due("page of " + whole, Check.page(x, 0, whole), 1 + under);
            check.due("KIND", x.text(0, 0, 0, 0), 'k');
            check.due("NAME", x.text(0, 0, 1, 0), name ? 'n' : -1);
            check.due("TEXT", x.text(0, 0, 2, 0), text ? 't' : -1);
            check.due("HARM", x.part(0, 0, 6), harm ? 1 : 0);
            check.due("under it", x.part(0, 0, 9), under);
        }
    }

    @Says("part = KIND [# NAME] [TEXT] [!] [( part {part} )]")
    static void noneBetweenTheParentheses(Check check) {
        check.fault("a()", 2, 2);
        check.fault("a( )", 2, 3);
        check.fault("a(b())", 2, 4);
    }

    @Says("KIND and NAME are words (a .. z, 8 at most)")
    static void fromAToZ(Check check) {
        for (char letter = 'a'; letter <= 'z'; letter++) {
            ClickBench x = Check.with(letter + "#" + letter);
            check.due("KIND", x.text(0, 0, 0, 0), letter);
            check.due("NAME", x.text(0, 0, 1, 0), letter);
        }
        check.fault("`", 1, 0);
        check.fault("{", 1, 0);
        check.fault("A", 1, 0);
        check.fault("Z", 1, 0);
        check.fault("a#`", 1, 2);
        check.fault("a#{", 1, 2);
        check.fault("ab0", 1, 2);
    }

    @Says("KIND and NAME are words (a .. z, 8 at most)")
    static void oneToEightLetters(Check check) {
        for (int letters = 1; letters <= 8; letters++) {
            String word = "zyxwvuts".substring(0, letters);
            ClickBench x = Check.with(word + "#" + word);
            for (int what = 0; what < 2; what++) {
                check.due("the last letter", x.text(0, 0, what, letters - 1), word.charAt(letters - 1));
                check.due("none behind it", x.text(0, 0, what, letters), -1);
            }
        }
        check.fault("a#", 2, 2);
        check.fault("#n", 2, 0);
    }

    @Says("a word is as long as can be")
    static void lettersMakeOneWord(Check check) {
        check.right("ab", 1);
        check.right("p(ab cd)", 3);
        check.right("p(a b c d)", 5);
        check.right("p(a\nb)", 3);
    }

    /** A word can be 8 long and no longer, so the ninth letter begins the next one. */
    @Says({"a word is as long as can be", "KIND and NAME are words (a .. z, 8 at most)"})
    static void theNinthLetterBeginsTheNextWord(Check check) {
        check.right("abcdefgh", 1);
        check.fault("abcdefghi", 2, 8);
        check.right("p(abcdefghi)", 3);
        check.right("p#abcdefgh", 1);
        check.fault("p#abcdefghi", 2, 10);
        check.right("p(a#abcdefghi)", 3);
        check.right("p(" + "a".repeat(16) + ")", 3);
        check.right("p(" + "a".repeat(17) + ")", 4);
        ClickBench x = Check.with("p(abcdefghijk)");
        check.due("the ninth letter", x.text(0, 2, 0, 0), 'i');
        check.due("the last", x.text(0, 2, 0, 2), 'k');
    }

    @Says("TEXT: \" , 0 to 16 bytes 32 .. 126 but \" , \"")
    static void noByteToSixteen(Check check) {
        for (int length = 0; length <= 16; length++) {
            ClickBench x = Check.with("a\"" + "x".repeat(length) + "\"");
            check.due("how many bytes", x.part(0, 0, 7), length);
        }
        check.fault("a\"" + "x".repeat(17) + "\"", 1, 1);
        check.fault("a\"" + "x".repeat(18) + "\"", 1, 1);
        check.fault("a\"" + " ".repeat(17) + "\"", 1, 1);
    }

    @Says("TEXT: \" , 0 to 16 bytes 32 .. 126 but \" , \"")
    static void bytes32To126ButTheQuote(Check check) {
        for (int sign = 0; sign < 256; sign++) {
            String text = "a \"" + (char) sign + "\"";
            if (sign == '"') {
                check.fault(text, 1, 4);
            } else if (sign < 32 || sign > 126) {
                check.fault(text, 1, 2);
            } else {
                check.due("byte " + sign, Check.with(text).text(0, 0, 2, 0), sign);
            }
        }
    }

    @Says("TEXT: \" , 0 to 16 bytes 32 .. 126 but \" , \"")
    static void aTextThatIsNotClosed(Check check) {
        check.fault("a \"", 1, 2);
        check.fault("a \"x", 1, 2);
        check.fault("a \"" + "x".repeat(16), 1, 2);
        check.fault("a(b\"x)", 1, 3);
        check.fault("a\"x\"(b\"y)", 1, 6);
    }

    @Says("signs # ! ( )")
    static void signsWithinATextAreText(Check check) {
        ClickBench x = Check.with("a\"#!()\"(b)");
        check.due("TEXT", x.part(0, 0, 7), 4);
        check.due("no NAME", x.text(0, 0, 1, 0), -1);
        check.due("no HARM", x.part(0, 0, 6), 0);
        check.due("one under it", x.part(0, 0, 9), 1);
    }

    @Says("signs # ! ( )")
    static void noOtherSigns(Check check) {
        for (char sign : "$%&'*+,-./0189:;<=>?@[]^_{|}~".toCharArray()) {
            check.fault("a" + sign, 1, 1);
        }
    }

    @Says("blanks (32, 10) part TOKENS or not")
    static void withBlanksAndWithout(Check check) {
        check.right("a#b\"c\"!(d)", 2);
        check.right("a # b \"c\" ! ( d )", 2);
        check.right("\na\n#\nb\n\"c\"\n!\n(\nd\n)\n", 2);
        check.right("  \n a \n\n ", 1);
        check.right("a!(b!c!)", 3);
        check.right("a\"\"(b\"\"c#x(d))", 4);
        check.right("a(b(c)d)", 4);
        check.right("a(b\"x\"c)", 3);
    }

    @Says("blanks (32, 10) part TOKENS or not")
    static void noOtherBlanks(Check check) {
        for (int sign : new int[] {0, 1, 9, 11, 12, 13, 31, 127, 133, 160, 255}) {
            check.fault((char) sign + "a", 1, 0);
            check.fault("a" + (char) sign, 1, 1);
        }
    }

    @Says("PARTS are numbered from 0 on as they come")
    static void numberedAsTheyCome(Check check) {
        ClickBench x = Check.with("a(b(c d) e(f(g)) h)");
        for (int part = 0; part < 8; part++) {
            check.due("KIND of " + part, x.text(0, part, 0, 0), 'a' + part);
        }
        check.due("no part 8", x.text(0, 8, 0, 0), -1);
    }

    @Says("60 at most")
    static void sixtyParts(Check check) {
        check.right(Check.wide(60), 60);
        check.fault(Check.wide(61), 2, 2 + 2 * 59);
        String row = "a(" + "b ".repeat(9) + ")";
        check.right("p(" + row.repeat(5) + "b ".repeat(9) + ")", 60);
        check.fault("p(" + row.repeat(5) + "b ".repeat(10) + ")", 2, 2 + 5 * row.length() + 18);
    }

    @Says("at most 12 within one another (the first is 1)")
    static void twelveWithinOneAnother(Check check) {
        check.right(Check.deep(12), 12);
        check.fault(Check.deep(13), 2, 24);
        check.right("a(".repeat(11) + "b b b" + ")".repeat(11), 14);
        check.right("p(" + (Check.deep(11) + " ").repeat(5) + ")", 56);
        check.fault("p(" + Check.deep(11) + " " + Check.deep(12) + ")", 2, 2 + Check.deep(11).length() + 1 + 22);
    }
}
