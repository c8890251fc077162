import java.util.Arrays;

/** What the tests of the document's edges share: each sentence is named, and is asked about at least once. */
abstract class Edges {
    static final int NONE = SilentTable.NONE;
    static final int MISSING = -2;
    static final int LIST = 0;
    static final int ROW = 1;
    static final int MEAL = 2;
    static final int HOUSE = 3;
    static final int MAX = Integer.MAX_VALUE;
    static final int MIN = Integer.MIN_VALUE;
    /** By sort: how many there may be, and the shortest text that tells something. */
    static final int[] MOST = {2, 3, 2, 2};
    static final String[] PLAIN = {"sign 0 0 1;", "0", "says 0 0;", "never 0;"};

    private final Due due = new Due();
    private String sentence = "";
    private int askedBefore = 0;
    private int sentences = 0;

    /** An answer by one argument. */
    interface Asked {
        long answer(int n);
    }

    /** Begins the tests of one sentence: where it stands in the document, and its words. */
    final void sentence(String where, String words) {
        endSentence();
        sentence = where + " '" + words + "': ";
        sentences++;
    }

    private void endSentence() {
        if (sentences > 0 && due.askedSoFar() == askedBefore) {
            due.is(sentence + "is not asked about", 0, 1);
        }
        askedBefore = due.askedSoFar();
    }

    final void close(String test) {
        endSentence();
        System.out.println(test + ": " + sentences + " sentences");
        due.close(test);
    }

    final void is(String call, long got, long want) {
        due.is(sentence + call, got, want);
    }

    final void is(String call, boolean got, boolean want) {
        due.is(sentence + call, got, want);
    }

    final void not(String call, long got, long wrong) {
        due.is(sentence + call + " must not answer " + wrong + ", it", got == wrong ? 1 : 0, 0);
    }

    /** The first and the last number are taken; those beside them, and all far away, are refused. */
    final void takes(String call, int first, int last, long refusal, Asked asked) {
        not(call + " of " + first, asked.answer(first), refusal);
        not(call + " of " + last, asked.answer(last), refusal);
        refuses(call, refusal, asked, first - 1, last + 1);
        refusesFar(call, refusal, asked);
    }

    /** Of the numbers -40 .. 80 just these are taken. */
    final void takesJust(String call, long refusal, Asked asked, int... taken) {
        for (int n = -40; n <= 80; n++) {
            int one = n;
            if (Arrays.stream(taken).anyMatch(t -> t == one)) {
                not(call + " of " + n, asked.answer(n), refusal);
            } else {
                is(call + " of " + n, asked.answer(n), refusal);
            }
        }
        refusesFar(call, refusal, asked);
    }

    final void refuses(String call, long refusal, Asked asked, int... numbers) {
        for (int n : numbers) {
            is(call + " of " + n, asked.answer(n), refusal);
        }
    }

    final void refusesFar(String call, long refusal, Asked asked) {
        // Numbers that wrap around to small ones, if they are multiplied or cut to fewer bits.
        refuses(call, refusal, asked, MIN, MIN + 1, -65536, -256, -128, 128, 256, 1 << 16, 1 << 28, 1 << 30, MAX - 9, MAX);
    }

    final SilentTable table(String... texts) {
        return Due.table(texts);
    }

    /** A text of a sort, told to a new object: its FAULT and the FAULT's place (0 and NONE without). */
    final void fault(int sort, String text, int what, int place) {
        SilentTable x = new SilentTable();
        String call = "text(" + sort + ") of '" + text.replace("\n", "\\n") + "'";
        is(call, Due.tell(x, sort, text), what == 0 ? 0 : NONE);
        is(call + " fault(0)", x.fault(0), what);
        is(call + " fault(1)", x.fault(1), place);
        is(call + " count", x.count(sort), what == 0 ? 1 : 0);
    }

    final void fits(int sort, String text) {
        fault(sort, text, 0, NONE);
    }

    /** Puts a text in the place of one. */
    final void instead(SilentTable x, int sort, int at, String text) {
        Due.put(x, text);
        is("text(" + sort + ", " + at + ") of " + text, x.text(sort, at), at);
    }
}
