/** Promise 7: text. */
final class Promise07TextTest {
    public static void main(String[] args) {
        Promise.run(Promise07TextTest.class);
    }

    private static ClickBench some() {
        return Check.with("abcdefgh#zyxwvuts\"0123456789 ~!#()\"!(a \"\" b#q)");
    }

    private static void bytes(Check check, int part, int what, String due) {
        ClickBench x = some();
        for (int k = 0; k < due.length(); k++) {
            check.due("text(0, " + part + ", " + what + ", " + k + ")", x.text(0, part, what, k), due.charAt(k));
        }
        for (int k : new int[] {-1, due.length(), due.length() + 1, 16, 17, 64, Check.MIN, Check.MAX}) {
            if (k < 0 || k >= due.length()) {
                check.due("text(0, " + part + ", " + what + ", " + k + ")", x.text(0, part, what, k), -1);
            }
        }
    }

    @Says("Byte k of a PART's KIND (what 0)")
    static void kind(Check check) {
        bytes(check, 0, 0, "abcdefgh");
        bytes(check, 1, 0, "a");
        bytes(check, 2, 0, "b");
    }

    @Says("NAME (1)")
    static void name(Check check) {
        bytes(check, 0, 1, "zyxwvuts");
        bytes(check, 2, 1, "q");
    }

    @Says("TEXT (2)")
    static void text(Check check) {
        bytes(check, 0, 2, "0123456789 ~!#()");
    }

    @Says("TEXT (2)")
    static void eachPartHasItsOwnText(Check check) {
        String[] texts = {"0123456789ABCDEF", "~", "FEDCBA9876543210", "", "abcdefgh", "abcdefghi", "                "};
        StringBuilder page = new StringBuilder("p(");
        for (String text : texts) {
            page.append("a\"").append(text).append("\" ");
        }
        ClickBench x = Check.with(page.append(")").toString(), page.toString());
        for (int n = 0; n < texts.length; n++) {
            for (int k = 0; k < texts[n].length(); k++) {
                check.due("byte " + k + " of " + texts[n], x.text(1, n + 1, 2, k), texts[n].charAt(k));
            }
            check.due("none behind " + texts[n], x.text(1, n + 1, 2, texts[n].length()), -1);
            check.due("the same on the other page", x.fits(0, n + 1, 2, 1), 1);
        }
    }

    @Says({"Byte k of a PART's KIND (what 0)", "NAME (1)"})
    static void eachPartHasItsOwnWords(Check check) {
        ClickBench x = Check.with("abcdefgh#hgfedcba(z#y abcdefgx(q) w#zzzzzzzz b)");
        String[] kinds = {"abcdefgh", "z", "abcdefgx", "q", "w", "b"};
        String[] names = {"hgfedcba", "y", "", "", "zzzzzzzz", ""};
        for (int part = 0; part < kinds.length; part++) {
            for (int k = 0; k < 9; k++) {
                int kind = k < kinds[part].length() ? kinds[part].charAt(k) : -1;
                int name = k < names[part].length() ? names[part].charAt(k) : -1;
                check.due("KIND byte " + k + " of " + part, x.text(0, part, 0, k), kind);
                check.due("NAME byte " + k + " of " + part, x.text(0, part, 1, k), name);
            }
        }
    }

    @Says("NONE if there is none such")
    static void noNameNoText(Check check) {
        bytes(check, 1, 1, "");
        bytes(check, 1, 2, "");
        bytes(check, 2, 2, "");
    }

    @Says("NONE if there is none such")
    static void anotherWhat(Check check) {
        for (int what : new int[] {-1, 3, 4, Check.MIN, Check.MAX}) {
            check.due("what " + what, some().text(0, 0, what, 0), -1);
        }
    }

    @Says("NONE if there is none such")
    static void noSuchPart(Check check) {
        ClickBench x = some();
        for (int what = 0; what < 3; what++) {
            for (int part : new int[] {-1, 3, 60, Check.MIN, Check.MAX}) {
                check.due("part " + part, x.text(0, part, what, 0), -1);
            }
            check.due("no PAGE", x.text(1, 0, what, 0), -1);
            for (int shelf : Check.NO_SHELVES) {
                check.due("no SHELF", x.text(shelf, 0, what, 0), -1);
            }
        }
    }
}
