/** What all tests share: answers compared with those that are due, texts put on the tape. */
final class Due {
    private int wrong = 0;
    private int asked = 0;

    void is(String call, long got, long want) {
        asked++;
        if (got != want) {
            wrong++;
            if (wrong <= 40) {
                System.out.println(call + " answered " + got + ", due is " + want);
            }
        }
    }

    void is(String call, boolean got, boolean want) {
        is(call, got ? 1 : 0, want ? 1 : 0);
    }

    int wrongSoFar() {
        return wrong;
    }

    int askedSoFar() {
        return asked;
    }

    void close(String test) {
        System.out.println(test + ": " + asked + " answers, " + wrong + " wrong");
        if (wrong != 0) {
            System.exit(1);
        }
    }

    /** Makes a text the whole tape; a character is a byte. */
    static void put(SilentTable x, String text) {
        x.end(0);
        byte[] padded = new byte[(text.length() + 19) / 20 * 20];
        for (int i = 0; i < padded.length; i++) {
            padded[i] = (byte) (i < text.length() ? text.charAt(i) : ' ');
        }
        for (int i = 0; i < padded.length; i += 20) {
            x.feed(word(padded, i), word(padded, i + 4), word(padded, i + 8), word(padded, i + 12), word(padded, i + 16));
        }
        x.end(text.length());
    }

    private static int word(byte[] bytes, int at) {
        return bytes[at] << 24 | (bytes[at + 1] & 255) << 16 | (bytes[at + 2] & 255) << 8 | bytes[at + 3] & 255;
    }

    static int tell(SilentTable x, int sort, String text) {
        put(x, text);
        return x.text(sort, SilentTable.NONE);
    }

    /** A new object with texts, each begun with its sort and a blank. */
    static SilentTable table(String... texts) {
        SilentTable x = new SilentTable();
        for (String text : texts) {
            if (tell(x, text.charAt(0) - '0', text.substring(2)) < 0) {
                throw new IllegalStateException("refused: " + text + ", fault " + x.fault(0) + " at " + x.fault(1));
            }
        }
        return x;
    }
}
