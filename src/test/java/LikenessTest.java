/** Promises 8 to 12: far, cost, gap, find and found, counted by hand. */
final class LikenessTest {
    private static final Check check = new Check();

    public static void main(String[] args) {
        changes();
        farByActs();
        farAtTheLimits();
        farWithoutParts();
        costs();
        gaps();
        finding();
        foundStays();
        tablesAreNotMixedUp();
        check.finish();
    }

    private static void far(String a, String b, int due) {
        ClickBench x = Check.with(a, b);
        check.due("far <" + a + "> <" + b + ">", x.far(0, 0, 1, 0), due);
        check.due("far <" + b + "> <" + a + ">", x.far(1, 0, 0, 0), due);
    }

    private static void changes() {
        far("a", "a", 0);
        far("a", "b", 4);
        far("a", "a#n", 2);
        far("a#m", "a#n", 2);
        far("a", "a\"t\"", 1);
        far("a\"s\"", "a\"t\"", 1);
        far("a", "a\"\"", 1);
        far("a", "b#n", 6);
        far("a", "b\"t\"", 5);
        far("a#n", "a\"t\"", 3);
        // A change would be 7: out and in again is 6.
        far("a", "b#n\"t\"", 6);
        far("a", "a!", 0);
        far("abcdefgh", "abcdefgx", 4);
        far("ab", "abb", 4);
        far("a#ab", "a#ba", 2);
        far("a\"12345678\"", "a\"123456789\"", 1);
        far("a\"1234567890123456\"", "a\"1234567890123457\"", 1);
        far("a\"1234567890123456\"", "a\"1234567890123456\"", 0);
        far("a\"12345678abcdefgh\"", "a\"abcdefgh12345678\"", 1);
    }

    private static void farByActs() {
        far("a(b c)", "a(b)", 3);
        far("a(b c)", "a(c b)", 6);
        far("a(b(c))", "a(c)", 3);
        far("a(b(c d) e)", "a(c d e)", 3);
        far("a(c d e)", "a(x(c d) e)", 3);
        far("a(b)", "b", 3);
        far("a(b c)", "b", 6);
        far("x(a(b c) d)", "x(b a(c d))", 6);
        far("a(b c d)", "a(b x d)", 4);
        far("a(b c d)", "a(b x\"t\"#n d)".replace("x\"t\"#n", "x#n\"t\""), 6);
        far("a(b(c(d)))", "a(d)", 6);
        far("p(q(r s) t)", "p(q(r) s t)", 6);
    }

    private static void farAtTheLimits() {
        String deep = Check.repeat("a(", 11) + "a" + Check.repeat(")", 11);
        String wide = "a(" + Check.repeat("a ", 59) + ")";
        far(deep, deep, 0);
        far(wide, wide, 0);
        far(deep, "a", 33);
        far(wide, "a", 177);
        // The wide one keeps its root and one below it.
        far(deep, wide, 30 + 174);
        far(wide, "b(" + Check.repeat("b ", 59) + ")", 240);
        far(wide, "b#n\"t\"(" + Check.repeat("b#n\"t\" ", 59) + ")", 360);
    }

    private static void farWithoutParts() {
        ClickBench x = Check.with("a(b)", "a");
        check.due("far of the part itself", x.far(0, 1, 0, 1), 0);
        check.due("far on one page", x.far(0, 0, 0, 1), 3);
        check.due("no part", x.far(0, 2, 1, 0), -1);
        check.due("no other part", x.far(0, 0, 1, 1), -1);
        check.due("part -1", x.far(0, -1, 1, 0), -1);
        check.due("other part -1", x.far(0, 0, 1, -1), -1);
        check.due("no page", x.far(2, 0, 1, 0), -1);
        check.due("no other page", x.far(0, 0, 3, 0), -1);
        check.due("shelf -1", x.far(-1, 0, 1, 0), -1);
        check.due("other 4", x.far(0, 0, 4, 0), -1);
        check.due("cost: no part", x.cost(0, 2, 1, 0), -1);
        check.due("cost: no other part", x.cost(0, 0, 1, 1), -1);
        check.due("cost: no page", x.cost(2, 0, 1, 0), -1);
        check.due("cost: no other page", x.cost(0, 0, 3, 0), -1);
        check.due("cost: shelf 4", x.cost(4, 0, 1, 0), -1);
        check.due("cost: other -1", x.cost(0, 0, -1, 0), -1);
    }

    private static void costs() {
        ClickBench x = Check.with("p(a b c)", "q#n(b(c) b d)", "b");
        check.due("far 3 times and neighbours", x.cost(0, 2, 1, 1), 3 * 3 + 6 + 3 + 4);
        check.due("neighbours alone", x.cost(0, 2, 1, 3), 6 + 4 + 4);
        check.due("the first part has none", x.cost(0, 0, 1, 0), 3 * x.far(0, 0, 1, 0));
        check.due("one has no neighbours", x.cost(0, 2, 2, 0), 9);
        check.due("the other has none", x.cost(2, 0, 0, 2), 9);
        check.due("left only", x.cost(0, 1, 0, 2), 3 * 4 + 0 + 3 + 4);
        check.due("right only", x.cost(0, 3, 0, 2), 3 * 4 + 0 + 4 + 3);
        ClickBench y = Check.with("p(a(x y z) b)", "p(a b)");
        check.due("a neighbour counts without what is under it", y.cost(0, 5, 1, 2), 0);
        check.due("so does a parent", Check.with("p(b c)", "p(b)").cost(0, 1, 1, 1), 3);
        ClickBench z = Check.with("p(a b)", "p#n\"t\"(a b)", "q#n\"t\"(a b)");
        check.due("a parent's name and text", z.cost(0, 1, 1, 1), 3);
        check.due("a change alone may be 7", z.cost(0, 1, 2, 1), 7);
    }

    private static void gaps() {
        ClickBench x = new ClickBench();
        check.due("gap(-1)", x.gap(-1), false);
        check.due("gap(101)", x.gap(101), false);
        check.due("gap(max)", x.gap(Integer.MAX_VALUE), false);
        check.due("gap(min)", x.gap(Integer.MIN_VALUE), false);
        check.due("gap at first", x.about(0), 1);
        check.due("gap(0)", x.gap(0), true);
        check.due("about(0)", x.about(0), 0);
        check.due("gap(100)", x.gap(100), true);
        check.due("gap(101) again", x.gap(101), false);
        check.due("about(0)", x.about(0), 100);
    }

    private static void found(ClickBench x, String when, int best, int next, int bestCost, int nextCost) {
        check.due(when + ": found(0)", x.found(0), best);
        check.due(when + ": found(1)", x.found(1), next);
        check.due(when + ": found(2)", x.found(2), bestCost);
        check.due(when + ": found(3)", x.found(3), nextCost);
    }

    private static void finding() {
        ClickBench x = Check.with("p(b\"one\" b\"two\" c)", "p(b\"two\" b\"one\")", "x(b b b)", "q(b b b b b)");
        check.due("on its own page", x.find(0, 1, 0), 1);
        found(x, "own page", 1, 2, 0, 3 + 3 + 5);
        check.due("the place tells more than the text", x.find(0, 1, 1), 1);
        found(x, "place", 1, 2, 3 + 1, 3 + 3);
        x.gap(2);
        check.due("more by GAP", x.find(0, 1, 1), 1);
        x.gap(3);
        check.due("more by less than GAP", x.find(0, 1, 1), 0);
        found(x, "doubtful", 1, 2, 4, 6);
        x.gap(1);
        check.due("like costs", x.find(2, 2, 3), 0);
        found(x, "the least numbers", 2, 3, 4, 4);
        check.due("the last in its row", x.find(2, 3, 3), 1);
        found(x, "last", 5, 2, 4, 7);
        x.gap(0);
        check.due("like costs, GAP 0", x.find(2, 2, 3), 1);
        found(x, "GAP 0", 2, 3, 4, 4);
        x.gap(100);
        check.due("there is no NEXT", x.find(0, 3, 0), 1);
        found(x, "alone", 3, -1, 0, -1);
        check.due("alone, and much changed", x.find(2, 0, 2), 1);
        found(x, "first", 0, -1, 0, -1);
    }

    private static void foundStays() {
        ClickBench x = Check.with("p(b c)", "p(b x b)", "d(b)");
        check.due("nothing was found yet", x.found(0), -1);
        check.due("missing at first", x.find(0, 0, 2), -2);
        check.due("nothing was found yet", x.found(2), -1);
        check.due("two of its KIND", x.find(0, 1, 1), 1);
        found(x, "two", 1, 3, 4, 6);
        check.due("missing", x.find(0, 2, 1), -2);
        found(x, "after missing", 1, 3, 4, 6);
        check.due("no part", x.find(0, 3, 1), -1);
        check.due("part -1", x.find(0, -1, 1), -1);
        check.due("no page", x.find(0, 1, 3), -1);
        check.due("no such shelf", x.find(0, 1, 4), -1);
        check.due("shelf -1", x.find(-1, 1, 1), -1);
        found(x, "after none", 1, 3, 4, 6);
        x.act(true, 0, 1);
        check.due("a run finds, too", x.run(2), 1);
        found(x, "after a run", 1, 3, 4, 6);
        Check.page(x, 1, "z");
        found(x, "after a new page", 1, 3, 4, 6);
        check.due("found(-1)", x.found(-1), -1);
        check.due("found(4)", x.found(4), -1);
    }

    private static void tablesAreNotMixedUp() {
        ClickBench x = Check.with("a(b(c) d)", "a(b d(c))", "a(d)", "b");
        int[][] due = new int[4][4];
        for (int round = 0; round < 3; round++) {
            for (int s = 0; s < 4; s++) {
                for (int t = 0; t < 4; t++) {
                    int far = x.far(s, 0, t, 0);
                    due[s][t] = round == 0 ? far : due[s][t];
                    check.due("far again " + s + " " + t, far, due[s][t]);
                }
            }
        }
        check.due("far 0 1", due[0][1], 6);
        check.due("far 0 2", due[0][2], 6);
        check.due("far 0 3", due[0][3], 9);
        check.due("far 2 1", due[2][1], 6);
        Check.page(x, 1, "a(b(c) d)");
        check.due("a new page on the shelf", x.far(0, 0, 1, 0), 0);
        check.due("a new page on the shelf, turned", x.far(1, 0, 0, 0), 0);
        check.due("one above the other, the lower first", x.far(0, 1, 2, 0), 8);
        check.due("the upper then", x.far(0, 0, 2, 0), 6);
    }
}
