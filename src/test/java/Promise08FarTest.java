/** Promise 8: far, and what of the term LIKENESS says what acts cost. FarTest tries all acts out. */
final class Promise08FarTest {
    public static void main(String[] args) {
        Promise.run(Promise08FarTest.class);
    }

    private static void far(Check check, String a, String b, int due) {
        ClickBench x = Check.with(a, b);
        check.due("far <" + a + "> <" + b + ">", x.far(0, 0, 1, 0), due);
        check.due("far <" + b + "> <" + a + ">", x.far(1, 0, 0, 0), due);
    }

    @Says("CHANGE of a PART into another one costs 4 if their KINDS differ")
    static void kinds(Check check) {
        far(check, "a", "a", 0);
        far(check, "a", "b", 4);
        far(check, "ab", "abb", 4);
        far(check, "ab", "ba", 4);
        far(check, "abcdefgh", "abcdefgx", 4);
        far(check, "abcdefgh", "abcdefg", 4);
    }

    @Says("2 if their NAMES do (none is one, too)")
    static void names(Check check) {
        far(check, "a", "a#n", 2);
        far(check, "a#m", "a#n", 2);
        far(check, "a#n", "a#n", 0);
        far(check, "a#ab", "a#ba", 2);
        far(check, "a#abcdefgh", "a#abcdefgx", 2);
        far(check, "a#abcdefgh", "a#abcdefgh", 0);
    }

    @Says("1 if their TEXT do")
    static void texts(Check check) {
        far(check, "a", "a\"t\"", 1);
        far(check, "a\"s\"", "a\"t\"", 1);
        far(check, "a\"t\"", "a\"t\"", 0);
        far(check, "a\"12345678\"", "a\"123456789\"", 1);
        far(check, "a\"1234567890123456\"", "a\"1234567890123457\"", 1);
        far(check, "a\"1234567890123456\"", "a\"1234567890123456\"", 0);
        far(check, "a\"12345678abcdefgh\"", "a\"abcdefgh12345678\"", 1);
        far(check, "a\" \"", "a\"  \"", 1);
    }

    /** TEXT of no bytes is TEXT: part() tells 0 of it, and NONE without. */
    @Says("1 if their TEXT do")
    static void noBytesAreNotNoText(Check check) {
        far(check, "a", "a\"\"", 1);
        far(check, "a\"\"", "a\"\"", 0);
    }

    @Says("CHANGE of a PART into another one costs 4 if their KINDS differ")
    static void aChangeIsTheSum(Check check) {
        far(check, "a", "b#n", 6);
        far(check, "a", "b\"t\"", 5);
        far(check, "a#n", "a\"t\"", 3);
        far(check, "a#m\"s\"", "a#n\"t\"", 3);
    }

    @Says("CHANGE of a PART into another one costs 4 if their KINDS differ")
    static void harmAndClicksAreNothing(Check check) {
        far(check, "a", "a!", 0);
        ClickBench x = Check.with("a", "a");
        x.act(true, 0, 0);
        x.run(0);
        check.due("a part with a click", x.far(0, 0, 1, 0), 0);
    }

    @Says("to PUT IN a PART (anywhere, some that stand side by side may come under it)")
    static void putIn(Check check) {
        far(check, "a", "a(b)", 3);
        far(check, "a(b d)", "a(b c d)", 3);
        far(check, "a(b d)", "a(c b d)", 3);
        far(check, "a(c d e)", "a(x(c d) e)", 3);
        far(check, "a(c d e)", "a(c x(d e))", 3);
        far(check, "a(c d e)", "a(x(c d e))", 3);
        far(check, "a(c d e)", "a(c d e x)", 3);
        far(check, "b", "a(b)", 3);
        // c and e don't stand side by side: d goes and comes again.
        far(check, "a(c d e)", "a(x(c e) d)", 9);
    }

    @Says("or TAKE one OUT (those under it come in its place) costs 3")
    static void takeOut(Check check) {
        far(check, "a(b c)", "a(b)", 3);
        far(check, "a(b(c))", "a(c)", 3);
        far(check, "a(b(c d) e)", "a(c d e)", 3);
        far(check, "a(b)", "b", 3);
        far(check, "a(b c)", "b", 6);
        far(check, "a(b(c(d)))", "a(d)", 6);
        far(check, "a(b(c(d)))", "d", 9);
    }

    @Says("FAR of two PARTS is the least sum of such acts")
    static void theLeastSum(Check check) {
        // A change would be 7: out and in again is 6.
        far(check, "a", "b#n\"t\"", 6);
        far(check, "a(b c d)", "a(b x d)", 4);
        far(check, "a(b c d)", "a(b x#n\"t\" d)", 6);
        far(check, "x(a(b c) d)", "x(b a(c d))", 6);
        far(check, "p(q(r s) t)", "p(q(r) s t)", 6);
        far(check, "a(b)", "b(a)", 6);
        far(check, "a(a(a))", "a(a)", 3);
    }

    @Says("that turns the one, with all under it, into the other, with all under it")
    static void withAllUnderIt(Check check) {
        ClickBench x = Check.with("p(a(b c) d(a(b)) a)", "q(r(a(b c)) s)");
        check.due("what is beside and above is nothing", x.far(0, 1, 1, 2), 0);
        check.due("one less under it", x.far(0, 5, 1, 2), 3);
        check.due("nothing under it", x.far(0, 7, 1, 2), 6);
        check.due("those of one PAGE", x.far(0, 1, 0, 5), 3);
        check.due("one within the other", x.far(0, 4, 0, 5), 3);
        check.due("the same", x.far(0, 4, 0, 4), 0);
    }

    @Says("(orders of children stay)")
    static void ordersStay(Check check) {
        far(check, "a(b c)", "a(c b)", 6);
        far(check, "a(b c d)", "a(d b c)", 6);
        far(check, "a(b b#n)", "a(b#n b)", 4);
        far(check, "a(b b\"t\")", "a(b\"t\" b)", 2);
    }

    @Says("FAR of two PARTS; NONE if one is none")
    static void oneIsNone(Check check) {
        ClickBench x = Check.with("a(b)", "a");
        for (int part : new int[] {-1, 2, 60, Check.MIN, Check.MAX}) {
            check.due("part " + part, x.far(0, part, 1, 0), -1);
            check.due("other part " + part, x.far(1, 0, 0, part), -1);
        }
        check.due("both are none", x.far(0, 2, 1, 1), -1);
        for (int shelf : new int[] {-1, 2, 3, 4, Check.MIN, Check.MAX}) {
            check.due("shelf " + shelf, x.far(shelf, 0, 1, 0), -1);
            check.due("other " + shelf, x.far(0, 0, shelf, 0), -1);
        }
    }

    @Says("FAR of two PARTS; NONE if one is none")
    static void theLargestPages(Check check) {
        String deep = Check.deep(12);
        String wide = "a(" + "a ".repeat(59) + ")";
        far(check, deep, deep, 0);
        far(check, wide, wide, 0);
        far(check, deep, "a", 33);
        far(check, wide, "a", 177);
        // Both keep the first and one below it.
        far(check, deep, wide, 30 + 174);
        far(check, wide, "b(" + "b ".repeat(59) + ")", 240);
        far(check, wide, "b#n\"t\"(" + "b#n\"t\" ".repeat(59) + ")", 360);
    }

    @Says("FAR of two PARTS; NONE if one is none")
    static void inAnyOrderOfAsking(Check check) {
        ClickBench x = Check.with("a(b(c) d)", "a(b d(c))", "a(d)", "b");
        int[][] due = {{0, 6, 6, 9}, {6, 0, 6, 9}, {6, 6, 0, 7}, {9, 9, 7, 0}};
        for (int round = 0; round < 3; round++) {
            for (int s = 0; s < 4; s++) {
                for (int t = 0; t < 4; t++) {
                    check.due("far " + s + " " + t, x.far(s, 0, t, 0), due[s][t]);
                }
            }
        }
        check.due("the lower first", x.far(0, 1, 2, 0), 8);
        check.due("the upper then", x.far(0, 0, 2, 0), 6);
        Check.page(x, 1, "a(b(c) d)");
        check.due("a new page on the shelf", x.far(0, 0, 1, 0), 0);
        check.due("a new page on the shelf, turned", x.far(1, 0, 0, 0), 0);
    }
}
