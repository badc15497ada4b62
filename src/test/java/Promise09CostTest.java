/** Promise 9: cost, and what of the term LIKENESS says of COST. */
final class Promise09CostTest {
    public static void main(String[] args) {
        Promise.run(Promise09CostTest.class);
    }

    /** COST of a part of the second page, looked at for one of the first, and turned round. */
    private static void cost(Check check, String a, int part, String b, int otherPart, int due) {
        ClickBench x = Check.with(a, b);
        String call = "cost of <" + a + "> " + part + " <" + b + "> " + otherPart;
        check.due(call, x.cost(0, part, 1, otherPart), due);
        check.due(call + " turned", x.cost(1, otherPart, 0, part), due);
    }

    @Says("COST of a PART b, looked at for a PART a: 3 * FAR")
    static void threeTimesFar(Check check) {
        cost(check, "a", 0, "a", 0, 0);
        cost(check, "a", 0, "a\"t\"", 0, 3);
        cost(check, "a", 0, "a#n", 0, 6);
        cost(check, "a", 0, "b", 0, 12);
        cost(check, "a", 0, "b#n\"t\"", 0, 18);
        cost(check, "a(b c)", 0, "a(b)", 0, 9);
        cost(check, "p(a(b))", 1, "p(a(b(c) d))", 1, 18);
    }

    @Says("and CHANGE of a's PARENT into b's")
    static void parents(Check check) {
        cost(check, "p(a)", 1, "q(a)", 1, 4);
        cost(check, "p(a)", 1, "p#n(a)", 1, 2);
        cost(check, "p(a)", 1, "p\"t\"(a)", 1, 1);
        cost(check, "p(a)", 1, "p#n\"t\"(a)", 1, 3);
    }

    @Says("of its LEFT into b's")
    static void lefts(Check check) {
        cost(check, "p(x a)", 2, "p(y a)", 2, 4);
        cost(check, "p(x a)", 2, "p(x#n a)", 2, 2);
        cost(check, "p(x a)", 2, "p(x\"t\" a)", 2, 1);
        cost(check, "p(y x a)", 3, "p(z x a)", 3, 0);
    }

    @Says("its RIGHT into b's")
    static void rights(Check check) {
        cost(check, "p(a x)", 1, "p(a y)", 1, 4);
        cost(check, "p(a x)", 1, "p(a x#n)", 1, 2);
        cost(check, "p(a x)", 1, "p(a x\"t\")", 1, 1);
        cost(check, "p(a x y)", 1, "p(a x z)", 1, 0);
    }

    /** Of CHANGE alone no act takes the place: it may be 7, where FAR would be 6. */
    @Says("each alone, without what is under it")
    static void aChangeMayBeSeven(Check check) {
        cost(check, "p(a)", 1, "q#n\"t\"(a)", 1, 7);
        cost(check, "p(x a)", 2, "p(y#n\"t\" a)", 2, 7);
        cost(check, "p(a x)", 1, "p(a y#n\"t\")", 1, 7);
        cost(check, "p(x a x)", 2, "q#n\"t\"(y#n\"t\" a y#n\"t\")", 2, 21);
    }

    @Says("each alone, without what is under it")
    static void withoutWhatIsUnderIt(Check check) {
        cost(check, "p(x(y z) a)", 4, "p(x a)", 2, 0);
        cost(check, "p(a x(y z))", 1, "p(a x)", 1, 0);
        cost(check, "p(x a y)", 2, "p(z x a y z)", 3, 0);
        cost(check, "r(p(a))", 2, "p(a)", 1, 0);
    }

    @Says("3 if just one of both has none")
    static void oneHasNone(Check check) {
        cost(check, "p(a)", 1, "a", 0, 3);
        cost(check, "p(x a)", 2, "p(a)", 1, 3);
        cost(check, "p(a x)", 1, "p(a)", 1, 3);
        cost(check, "p(x#n\"t\" a)", 2, "p(a)", 1, 3);
        cost(check, "p(x a)", 2, "p(a x)", 1, 6);
        cost(check, "p(x a y)", 2, "a", 0, 9);
    }

    @Says("0 if both")
    static void bothHaveNone(Check check) {
        cost(check, "a", 0, "a", 0, 0);
        cost(check, "p(a)", 1, "p(a)", 1, 0);
        cost(check, "p(a x)", 1, "p(a x)", 1, 0);
        cost(check, "p(x a)", 2, "p(x a)", 2, 0);
    }

    @Says("COST of a PART of the other SHELF, looked at for one of the first")
    static void allTogether(Check check) {
        cost(check, "p(a b c)", 2, "q#n(b(c) b d)", 1, 3 * 3 + 6 + 3 + 4);
        cost(check, "p(a b c)", 2, "q#n(b(c) b d)", 3, 6 + 4 + 4);
        ClickBench x = Check.with("p(a b c)");
        check.due("of one PAGE", x.cost(0, 1, 0, 2), 3 * 4 + 0 + 3 + 4);
        check.due("of the same PART", x.cost(0, 2, 0, 2), 0);
        check.due("of its PARENT", x.cost(0, 1, 0, 0), 3 * 9 + 3 + 0 + 3);
    }

    @Says("NONE if one is none")
    static void oneIsNone(Check check) {
        ClickBench x = Check.with("a(b)", "a");
        for (int part : new int[] {-1, 2, 60, Check.MIN, Check.MAX}) {
            check.due("part " + part, x.cost(0, part, 1, 0), -1);
            check.due("other part " + part, x.cost(1, 0, 0, part), -1);
        }
        check.due("both are none", x.cost(0, 2, 1, 1), -1);
        for (int shelf : new int[] {-1, 2, 3, 4, Check.MIN, Check.MAX}) {
            check.due("shelf " + shelf, x.cost(shelf, 0, 1, 0), -1);
            check.due("other " + shelf, x.cost(0, 0, shelf, 0), -1);
        }
    }
}
