import java.nio.charset.StandardCharsets;

/** What all tests share: counting wrong answers, and putting texts on the tape. */
final class Check {
    private int wrong = 0;
    private int asked = 0;

    void due(String call, long got, long want) {
        asked++;
        if (got != want) {
            wrong++;
            System.out.println(call + " answered " + got + ", due is " + want);
        }
    }

    void due(String call, boolean got, boolean want) {
        due(call, got ? 1 : 0, want ? 1 : 0);
    }

    /** Ends the program: with exit code 1 if an answer was wrong, or none was asked for. */
    void finish() {
        System.out.println("  " + asked + " answers, " + wrong + " wrong");
        if (wrong != 0 || asked == 0) {
            System.exit(1);
        }
    }

    /** Feeds a text of bytes 0 to 255 and cuts what the last feed had too much. */
    static void feed(ClickBench x, String text) {
        byte[] bytes = text.getBytes(StandardCharsets.ISO_8859_1);
        for (int at = 0; at < bytes.length; at += 20) {
            int[] n = new int[5];
            for (int k = 0; k < 20; k++) {
                int sign = at + k < bytes.length ? bytes[at + k] & 255 : 32;
                n[k / 4] = n[k / 4] << 8 | sign;
            }
            x.feed(n[0], n[1], n[2], n[3], n[4]);
        }
        x.end(bytes.length);
    }

    static int page(ClickBench x, int shelf, String text) {
        feed(x, text);
        return x.page(shelf);
    }

    static ClickBench with(String... texts) {
        ClickBench x = new ClickBench();
        for (int shelf = 0; shelf < texts.length; shelf++) {
            if (page(x, shelf, texts[shelf]) < 1) {
                throw new IllegalStateException("no page: " + texts[shelf]);
            }
        }
        return x;
    }

    static String repeat(String text, int times) {
        return text.repeat(times);
    }
}
