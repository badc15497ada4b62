/** Promise 6: part, and what of the term PAGES says of a PART. */
final class Promise06PartTest {
    private static final String SHOP = "page(label\"Name\" field#wish list(row(link\"a\" label\"\" link)"
            + " label row!(button\"\"! link\"b\" link)) label\"x\")";

    public static void main(String[] args) {
        Promise.run(Promise06PartTest.class);
    }

    private static void all(Check check, ClickBench x, int what, int... due) {
        for (int part = 0; part < due.length; part++) {
            check.due("part(0, " + part + ", " + what + ")", x.part(0, part, what), due[part]);
        }
        check.due("part(0, " + due.length + ", " + what + ")", x.part(0, due.length, what), -1);
    }

    @Says({"Of a PART what 0: its PARENT", "Of a PART: its PARENT"})
    static void parent(Check check) {
        all(check, Check.with(SHOP), 0, -1, 0, 0, 0, 3, 4, 4, 4, 3, 3, 9, 9, 9, 0);
        all(check, Check.with("a"), 0, -1);
        all(check, Check.with("a(b(c(d)) e)"), 0, -1, 0, 1, 2, 0);
    }

    @Says({"1: LEFT, 2: RIGHT", "its LEFT and RIGHT are those beside it under one PARENT (or none)"})
    static void leftAndRight(Check check) {
        ClickBench x = Check.with(SHOP);
        all(check, x, 1, -1, -1, 1, 2, -1, -1, 5, 6, 4, 8, -1, 10, 11, 3);
        all(check, x, 2, -1, 2, 3, 13, 8, 6, 7, -1, 9, -1, 11, 12, -1, -1);
        all(check, Check.with("a"), 1, -1);
        all(check, Check.with("a"), 2, -1);
        all(check, Check.with("a(b(c) d(e))"), 1, -1, -1, -1, 1, -1);
        all(check, Check.with("a(b(c) d(e))"), 2, -1, 3, -1, -1, -1);
    }

    @Says({"3: TURN", "its TURN: how many of its KIND stand ahead of it under its PARENT"})
    static void turn(Check check) {
        all(check, Check.with(SHOP), 3, 0, 0, 0, 0, 0, 0, 0, 1, 0, 1, 0, 0, 1, 1);
        all(check, Check.with("a(a a(a a) b a ab a#n)"), 3, 0, 0, 1, 0, 1, 0, 2, 0, 3);
        check.due("the last of 59", Check.with(Check.wide(60)).part(0, 59, 3), 58);
    }

    @Says({"4: LABEL", "its LABEL: the last PART with a lower number, and TEXT of one byte or more,"
            + " whose KIND is label (or none)"})
    static void label(Check check) {
        all(check, Check.with(SHOP), 4, -1, -1, 1, 1, 1, 1, 1, 1, 1, 1, 1, 1, 1, 1);
        all(check, Check.with("a(label\"one\"(b) c label\"\" d label\"two\" label(e))"), 4,
                -1, -1, 1, 1, 1, 1, 1, 6, 6);
    }

    @Says("its LABEL: the last PART with a lower number, and TEXT of one byte or more, whose KIND is label (or none)")
    static void labelMayStandAnywhereAhead(Check check) {
        all(check, Check.with("a(b(c(label\"x\")) d)"), 4, -1, -1, -1, -1, 3);
        all(check, Check.with("label\"x\"(a label\"y\"(b) c)"), 4, -1, 0, 0, 2, 2);
    }

    @Says("its LABEL: the last PART with a lower number, and TEXT of one byte or more, whose KIND is label (or none)")
    static void othersAreNoLabels(Check check) {
        all(check, Check.with("a(labels\"x\" labe\"x\" b#label\"x\" alabel\"x\" lebal\"x\" label c label\"\" d)"), 4,
                -1, -1, -1, -1, -1, -1, -1, -1, -1, -1);
        all(check, Check.with("a(label\" \" b)"), 4, -1, -1, 1);
        all(check, Check.with("a(label\"0123456789ABCDEF\"! b)"), 4, -1, -1, 1);
    }

    @Says("5: how many stand above it")
    static void howManyAbove(Check check) {
        all(check, Check.with(SHOP), 5, 0, 1, 1, 1, 2, 3, 3, 3, 2, 2, 3, 3, 3, 1);
        all(check, Check.with(Check.deep(12)), 5, 0, 1, 2, 3, 4, 5, 6, 7, 8, 9, 10, 11);
    }

    @Says({"6: 1 if it is HARM (itself)", "One with ! is HARM."})
    static void harm(Check check) {
        all(check, Check.with(SHOP), 6, 0, 0, 0, 0, 0, 0, 0, 0, 0, 1, 1, 0, 0, 0);
        all(check, Check.with("a!(b(c!) d)"), 6, 1, 0, 1, 0);
        all(check, Check.with("a(b\"!\" c)"), 6, 0, 0, 0);
    }

    @Says("7: how many bytes its TEXT have (NONE: it has none)")
    static void bytesOfItsText(Check check) {
        all(check, Check.with(SHOP), 7, -1, 4, -1, -1, -1, 1, 0, -1, -1, -1, 0, 1, -1, 1);
        all(check, Check.with("a(b\"\" c\" \" d\"0123456789ABCDEF\" e#n f!)"), 7, -1, 0, 1, 16, -1, -1);
    }

    @Says("8: its CLICKS")
    static void clicks(Check check) {
        ClickBench x = Check.with("a(b c)", "a(b c)");
        all(check, x, 8, 0, 0, 0);
        x.act(true, 0, 1);
        x.act(false, 0, 2);
        for (int runs = 1; runs <= 3; runs++) {
            x.run(0);
            all(check, x, 8, 0, runs, 0);
        }
        check.clicks(x, 1, 0, 0, 0);
    }

    @Says("9: how many are under it (all)")
    static void howManyUnder(Check check) {
        all(check, Check.with(SHOP), 9, 13, 0, 0, 9, 3, 0, 0, 0, 0, 3, 0, 0, 0, 0);
        all(check, Check.with(Check.deep(12)), 9, 11, 10, 9, 8, 7, 6, 5, 4, 3, 2, 1, 0);
        check.due("of 60", Check.with(Check.wide(60)).part(0, 0, 9), 59);
    }

    @Says("NONE if there is none such")
    static void anotherWhat(Check check) {
        ClickBench x = Check.with("a(b)");
        for (int what : new int[] {-1, 10, 11, Check.MIN, Check.MAX}) {
            check.due("part(0, 1, " + what + ")", x.part(0, 1, what), -1);
        }
    }

    @Says("NONE if there is none such")
    static void noSuchPart(Check check) {
        ClickBench x = Check.with(Check.wide(60), "a");
        for (int what = 0; what < 10; what++) {
            for (int part : new int[] {-1, 60, 61, Check.MIN, Check.MAX}) {
                check.due("part(0, " + part + ", " + what + ")", x.part(0, part, what), -1);
            }
            check.due("part(1, 1, " + what + ")", x.part(1, 1, what), -1);
            check.due("no PAGE", x.part(2, 0, what), -1);
            for (int shelf : Check.NO_SHELVES) {
                check.due("no SHELF", x.part(shelf, 0, what), -1);
            }
        }
    }

    @Says("NONE if there is none such")
    static void ofTheLastOfSixty(Check check) {
        ClickBench x = Check.with(Check.wide(60));
        int[] due = {0, 58, -1, 58, -1, 1, 0, -1, 0, 0};
        for (int what = 0; what < 10; what++) {
            check.due("part(0, 59, " + what + ")", x.part(0, 59, what), due[what]);
        }
    }
}
