import java.util.Random;

/** Runs of drawn calls, each answered by the class and by the plain model, with seeds that never change. */
public final class ModelTest {
    private static final String[] ACTS = {"head", "tail", "plus", "less", "not"};
    private static final String[] LAWS = {"never", "most", "order", "pair", "hidden", "seen"};
    private static final int[] ODD = {-3, -2, -1, 0, 1, 2, 3, 4, 5, 6, 9, 10, 11, 12, 19, 20, 49, 50, Integer.MAX_VALUE, Integer.MIN_VALUE};

    private final Due due = new Due();
    private final Random random;
    private final int run;
    /** Whether all texts are as long as they may be. */
    private final boolean full;
    private SilentTable x = new SilentTable();
    private SlowTable y = new SlowTable();

    private ModelTest(int run) {
        this.run = run;
        full = run % 10 == 7;
        random = new Random(run);
        // Most runs begin with a full table, so that most calls have something to answer.
        for (int n = 0; n < 18 && run % 8 != 0; n++) {
            tellOne(n % 9 < 2 ? 0 : n % 9 < 5 ? 1 : n % 9 < 7 ? 2 : 3, -1);
        }
    }

    public static void main(String[] args) {
        int runs = args.length > 0 ? Integer.parseInt(args[0]) : 120;
        int first = args.length > 1 ? Integer.parseInt(args[1]) : 0;
        int wrong = 0;
        int asked = 0;
        for (int run = first; run < first + runs; run++) {
            ModelTest test = new ModelTest(run);
            for (int k = 0; k < 160 && test.due.wrongSoFar() == 0; k++) {
                test.call();
                asked++;
            }
            wrong += test.due.wrongSoFar();
        }
        System.out.println("ModelTest: " + asked + " drawn calls, " + wrong + " wrong");
        if (wrong != 0) {
            System.exit(1);
        }
    }

    private int below(int n) {
        return random.nextInt(n);
    }

    /** A number mostly below n, now and then an odd one. */
    private int near(int n) {
        return below(30) == 0 ? ODD[below(ODD.length)] : below(Math.max(n, 1));
    }

    private int inRow(int row) {
        return near(Math.max(1, y.row(row, -1)));
    }

    private int seatIn(int meal) {
        return near(Math.max(1, y.meal(meal, 0)));
    }

    private int orNone(int n) {
        return below(3) == 0 ? -1 : near(n);
    }

    private void is(String call, long got, long want) {
        due.is("run " + run + ": " + call, got, want);
    }

    private void call() {
        try {
            switch (below(8)) {
                case 0 -> tell();
                case 1 -> askTold();
                case 2 -> askTrees();
                case 3 -> askMeanings();
                case 4 -> askMeal();
                case 5 -> askHouse();
                case 6 -> askTape();
                default -> askTogether();
            }
        } catch (SlowTable.TooMuch e) {
            // The model can't tell: nothing is compared.
        }
    }

    private String number(int n) {
        int v = below(150) == 0 ? below(100) : below(n);
        return below(12) == 0 && v < 10 ? "0" + v : "" + v;
    }

    private String blank() {
        String[] blanks = {" ", " ", " ", "  ", "\n", " \n "};
        return blanks[below(blanks.length)];
    }

    private String line(String word, int... limits) {
        StringBuilder line = new StringBuilder(word);
        for (int i = 0; i < limits.length; i++) {
            line.append(i == 0 && below(20) == 0 ? "" : blank()).append(number(limits[i]));
        }
        return line.toString();
    }

    /** Signs that go on meaning the same, hand by hand, until one does not. */
    private String chainText() {
        StringBuilder text = new StringBuilder("rule 0 0 1 " + ACTS[below(5)] + ";");
        int kept = below(9);
        for (int s = 0; s < 10; s++) {
            text.append("sign ").append(s).append(below(3) == 0 ? " 1 " : " 0 ").append(s <= kept ? 1 : 2 + below(2)).append(";");
            if (s < 9 && below(9) > 0) {
                text.append("near ").append(s).append(" ").append(s + 1).append(";");
            }
        }
        return text.toString();
    }

    /** Ten rules, sixteen readings, and as many that are near as fit. */
    private String fullListText() {
        int kinds = 1 + below(6);
        int signs = 1 + below(4);
        int values = below(2) == 0 ? 50 : 4;
        StringBuilder text = new StringBuilder();
        for (int n = 0; n < 10; n++) {
            text.append("rule ").append(below(kinds)).append(" ").append(below(kinds)).append(" ").append(below(kinds));
            text.append(" ").append(ACTS[below(5)]).append(";");
        }
        for (int n = 0; n < 16; n++) {
            text.append("sign ").append(below(signs)).append(" ").append(below(kinds)).append(" ").append(below(values)).append(";");
        }
        for (int n = below(2) * 27; n > 0 && text.length() <= 591; n--) {
            int one = below(10);
            text.append("near ").append(one).append(" ").append((one + 1 + below(9)) % 10).append(";");
        }
        return text.toString();
    }

    private String fullMealText() {
        StringBuilder text = new StringBuilder("seats 6;");
        int quiet = below(3);
        for (int n = 0; n < 50; n++) {
            int one = below(6);
            if (below(3) >= quiet) {
                text.append("says ").append(one).append(" ").append(below(4)).append(";");
            } else if (below(5) > 0) {
                text.append("look ").append(one).append(" ").append((one + 1 + below(5)) % 6).append(";");
            } else {
                text.append("away ").append(one).append(";");
            }
        }
        return text.toString();
    }

    private String fullRowText() {
        StringBuilder text = new StringBuilder();
        int signs = 1 + below(4);
        for (int n = 0; n < 12; n++) {
            text.append(below(signs)).append(" ");
        }
        return text.toString();
    }

    private String fullHouseText() {
        StringBuilder text = new StringBuilder();
        for (int n = 0; n < 8; n++) {
            int law = below(6);
            text.append(LAWS[law]).append(" ").append(below(4)).append(law >= 1 && law <= 3 ? " " + below(law == 1 ? 10 : 4) : "").append(";");
        }
        return text.toString();
    }

    private String fullText(int sort) {
        return switch (sort) {
            case 0 -> fullListText();
            case 1 -> fullRowText();
            case 2 -> fullMealText();
            default -> fullHouseText();
        };
    }

    private String listText() {
        if (below(4) == 0) {
            return chainText();
        }
        int kinds = 1 + below(3);
        int signs = 1 + below(5);
        int values = below(3) == 0 ? 50 : 6;
        StringBuilder text = new StringBuilder();
        for (int n = below(below(20) == 0 ? 13 : 7); n > 0; n--) {
            text.append(line("rule", kinds, kinds, kinds)).append(blank()).append(ACTS[below(5)]).append(";");
        }
        for (int n = 1 + below(below(20) == 0 ? 19 : 9); n > 0; n--) {
            text.append(line("sign", signs, kinds, values)).append(below(3) == 0 ? " ;\n" : ";");
        }
        if (below(3) == 0) {
            // A chain, by which it takes many hands to wear a sign far away.
            for (int s = below(4); s < 9; s++) {
                text.append("near ").append(s).append(" ").append(s + 1).append(";");
            }
        }
        for (int n = below(4); n > 0; n--) {
            int one = below(signs + 1);
            text.append("near ").append(one).append(" ").append((one + 1 + below(below(15) == 0 ? 10 : 9)) % 10).append(";");
        }
        return text.toString();
    }

    private String rowText() {
        StringBuilder text = new StringBuilder();
        int signs = 1 + below(4);
        for (int n = below(10) == 0 ? below(14) : 1 + below(5); n > 0; n--) {
            text.append(number(below(8) == 0 ? 10 : signs)).append(n == 1 && below(2) == 0 ? "" : blank());
        }
        return text.toString();
    }

    private String mealText() {
        StringBuilder text = new StringBuilder();
        int seats = 1 + below(6);
        int signs = 1 + below(4);
        if (below(3) > 0 || seats > 4) {
            text.append("seats 5;seats ").append(seats).append(";");
        }
        if (below(3) == 0) {
            // A chain, by which a request goes through many hands.
            for (int s = 0; s + 1 < seats; s++) {
                text.append("look ").append(s + 1).append(" ").append(s).append(";");
            }
        }
        int speaker = below(2) == 0 ? below(seats) : -1;
        for (int n = below(below(10) == 0 ? 60 : 20); n > 0; n--) {
            switch (below(5)) {
                case 0, 1 -> {
                    int one = below(seats);
                    int two = below(seats);
                    if (two != one || below(30) == 0) {
                        text.append("look ").append(one).append(" ").append(two).append(";");
                    }
                }
                case 2 -> text.append(line("away", seats)).append(";");
                default -> {
                    int who = speaker >= 0 && below(2) == 0 ? speaker : below(seats);
                    text.append("says ").append(who).append(" ").append(number(signs)).append(";");
                }
            }
        }
        return text.toString();
    }

    private String houseText() {
        StringBuilder text = new StringBuilder();
        for (int n = below(below(10) == 0 ? 11 : 6); n > 0; n--) {
            int law = below(6);
            text.append(law == 0 || law > 3 ? line(LAWS[law], 4) : law == 1 ? line(LAWS[law], 4, 3) : line(LAWS[law], 4, 4));
            text.append(";");
        }
        return text.toString();
    }

    /** Breaks a text now and then by a byte put in, left out or changed. */
    private String spoilt(String text) {
        if (below(8) > 0) {
            return text;
        }
        StringBuilder bytes = new StringBuilder(text);
        String odd = "0129;;a zR\n\t-" + (char) 0 + (char) 200 + (char) 255;
        int at = below(bytes.length() + 1);
        switch (below(4)) {
            case 0 -> bytes.insert(at, odd.charAt(below(odd.length())));
            case 1 -> bytes.setLength(at);
            default -> {
                if (at < bytes.length()) {
                    bytes.setCharAt(at, odd.charAt(below(odd.length())));
                }
            }
        }
        return bytes.toString();
    }

    private void feed(int a, int b, int c, int d, int e) {
        is("feed", x.feed(a, b, c, d, e), y.feed(a, b, c, d, e));
    }

    private void put(String text) {
        is("end(0)", x.end(0), y.end(0));
        String padded = text + "                    ";
        for (int i = 0; i < text.length(); i += 20) {
            int[] w = new int[5];
            for (int k = 0; k < 20; k++) {
                w[k / 4] = w[k / 4] << 8 | padded.charAt(i + k) & 255;
            }
            feed(w[0], w[1], w[2], w[3], w[4]);
        }
        is("end", x.end(text.length()), y.end(text.length()));
    }

    private void tell() {
        for (int n = 1 + below(3); n > 0; n--) {
            tellOne(below(30) == 0 ? ODD[below(ODD.length)] : below(4), below(4) == 0 ? -1 : near(3));
        }
    }

    private void tellOne(int sort, int at) {
        String text = switch (below(60) == 0 ? below(4) : sort) {
            case 0 -> listText();
            case 1 -> rowText();
            case 2 -> mealText();
            default -> houseText();
        };
        text = full && below(6) > 0 ? fullText(sort) : spoilt(text);
        put(text);
        String call = "text(" + sort + ", " + at + ") of " + text.replace("\n", "\\n");
        is(call, x.text(sort, at), y.text(sort, at));
        is("the tape behind it", x.feed(0, 0, 0, 0, 0), y.feed(0, 0, 0, 0, 0));
        is(call + " fault(0)", x.fault(0), y.fault(0));
        is(call + " fault(1)", x.fault(1), y.fault(1));
    }

    private void askTape() {
        int k = near(4);
        switch (below(8)) {
            case 0 -> {
                for (int n = below(3) == 0 ? 34 : 2; n > 0; n--) {
                    feed(random.nextInt(), 0x20303132, random.nextInt(), 0x3b3b3b3b, random.nextInt());
                }
            }
            case 1 -> is("end", x.end(k * 30), y.end(k * 30));
            case 2 -> is("fault", x.fault(k), y.fault(k));
            case 3 -> is("count", x.count(k), y.count(k));
            case 4, 5 -> is("image", x.image(k) ? 1 : 0, y.image(k) ? 1 : 0);
            default -> is("again", x.again(k) ? 1 : 0, y.again(k) ? 1 : 0);
        }
    }

    private void askTold() {
        int l = near(2);
        int k = orNone(12);
        int what = near(4);
        int sign = 10 + near(10);
        is("list(" + l + "," + what + ")", x.list(l, what), y.list(l, what));
        is("list(" + l + "," + sign + ")", x.list(l, sign), y.list(l, sign));
        is("rule(" + l + "," + k + "," + what + ")", x.rule(l, k, what), y.rule(l, k, what));
        is("reading(" + l + "," + k + "," + what + ")", x.reading(l, k, what), y.reading(l, k, what));
        is("row(" + l + "," + k + ")", x.row(l, k), y.row(l, k));
        is("law(" + l + "," + k + "," + what + ")", x.law(l, k, what), y.law(l, k, what));
    }

    private void askTrees() {
        int l = near(2);
        int r = near(3);
        int from = inRow(r) / 2;
        int to = inRow(r);
        int kind = near(3);
        int v = below(2) == 0 ? near(50) : near(8);
        is("trees(" + l + "," + r + "," + kind + "," + from + "," + to + ")", x.trees(l, r, kind, from, to), y.trees(l, r, kind, from, to));
        is("can(" + l + "," + r + "," + from + "," + to + ")", x.can(l, r, from, to), y.can(l, r, from, to));
        is("ways(" + l + "," + r + "," + v + ")", x.ways(l, r, v), y.ways(l, r, v));
        int place = inRow(r);
        long n = below(8) == 0 ? ODD[below(ODD.length)] : below(below(2) == 0 ? 3 : 200);
        if (below(3) == 0) {
            long whole = y.trees(l, r, 0, 0, y.row(r, -1) - 1);
            n = below(3) == 0 ? whole - below(3) : Math.floorMod(random.nextLong(), Math.max(1, whole));
            if (full && below(2) == 0) {
                // There may be far more trees than the number that is told.
                n = random.nextLong() >>> 1 + below(30);
            }
        }
        for (int what : new int[] {0, 1, 2, 3, 9, 10, 11, 12, 13, 14, near(30)}) {
            is("tree(" + l + "," + r + "," + n + "," + what + ")", x.tree(l, r, n, what), y.tree(l, r, n, what));
        }
        is("doubt(" + l + "," + r + "," + place + ")", x.doubt(l, r, place), y.doubt(l, r, place));
    }

    private void askMeanings() {
        int l = near(2);
        int r = near(3);
        int o = near(3);
        int k = orNone(4);
        int h = near(10);
        int place = inRow(r);
        int seed = random.nextInt();
        is("means(" + l + "," + r + "," + k + ")", x.means(l, r, k), y.means(l, r, k));
        is("like(" + l + "," + r + "," + o + ")", x.like(l, r, o), y.like(l, r, o));
        is("hole(" + l + "," + r + "," + place + ")", x.hole(l, r, place), y.hole(l, r, place));
        is("idle(" + l + "," + r + ")", x.idle(l, r), y.idle(l, r));
        is("drawn(" + l + "," + r + "," + h + "," + seed + "," + place + ")", x.drawn(l, r, h, seed, place), y.drawn(l, r, h, seed, place));
        is("worn(" + l + "," + r + "," + h + ")", x.worn(l, r, h), y.worn(l, r, h));
        is("could(" + l + "," + r + "," + h + "," + k + ")", x.could(l, r, h, k), y.could(l, r, h, k));
        is("lasts(" + l + "," + r + ")", x.lasts(l, r), y.lasts(l, r));
        is("becomes(" + l + "," + r + "," + o + ")", x.becomes(l, r, o), y.becomes(l, r, o));
    }

    private void askMeal() {
        int m = near(2);
        int k = orNone(Math.max(1, y.meal(m, 1)));
        int what = near(4);
        int seat = seatIn(m);
        int by = below(5) == 0 ? -1 : seatIn(m);
        boolean signs = random.nextBoolean();
        is("meal(" + m + "," + what + ")", x.meal(m, what), y.meal(m, what));
        is("deed(" + m + "," + k + "," + what + ")", x.deed(m, k, what), y.deed(m, k, what));
        is("looks(" + m + "," + k + "," + seat + ")", x.looks(m, k, seat), y.looks(m, k, seat));
        int c = orNone(5);
        is("caught(" + m + "," + by + "," + seat + "," + c + ")", x.caught(m, by, seat, c), y.caught(m, by, seat, c));
        is("passed(" + m + "," + by + "," + seat + ")", x.passed(m, by, seat), y.passed(m, by, seat));
        is("watch(" + m + "," + seat + "," + signs + ")", x.watch(m, seat, signs), y.watch(m, seat, signs));
        is("hears(" + m + "," + what + ")", x.hears(m, what), y.hears(m, what));
        int eyes = 10 + seatIn(m);
        is("hears(" + m + "," + eyes + ")", x.hears(m, eyes), y.hears(m, eyes));
    }

    private void askHouse() {
        int h = near(2);
        int m = near(2);
        int what = near(3);
        int seat = below(4) == 0 ? -1 : seatIn(m);
        is("breaks(" + h + "," + m + "," + what + ")", x.breaks(h, m, what), y.breaks(h, m, what));
        is("sins(" + h + "," + m + "," + seat + ")", x.sins(h, m, seat), y.sins(h, m, seat));
        is("mildest(" + h + "," + m + ")", x.mildest(h, m), y.mildest(h, m));
    }

    private void askTogether() {
        int l = near(2);
        int r = near(3);
        int m = near(2);
        int from = seatIn(m);
        int to = seatIn(m);
        int k = orNone(4);
        int by = below(4) == 0 ? -1 : seatIn(m);
        int v = near(below(4) == 0 ? 50 : 12);
        int what = near(3);
        int h = orNone(10);
        is("knows(" + l + "," + m + "," + by + "," + from + "," + k + ")", x.knows(l, m, by, from, k), y.knows(l, m, by, from, k));
        is("sure(" + l + "," + m + "," + from + ")", x.sure(l, m, from), y.sure(l, m, from));
        is("reaches(" + l + "," + r + "," + m + "," + from + "," + to + ")",
            x.reaches(l, r, m, from, to) ? 1 : 0, y.reaches(l, r, m, from, to) ? 1 : 0);
        int other = near(2);
        is("apart(" + l + "," + other + "," + what + ")", x.apart(l, other, what), y.apart(l, other, what));
        if (below(4) == 0) {
            int told = below(3) > 0 ? y.reading(l, below(Math.max(1, y.list(l, 1))), 2) : v;
            is("brief(" + l + "," + told + "," + h + "," + what + ")", x.brief(l, told, h, what), y.brief(l, told, h, what));
            is("asks(" + l + "," + told + "," + m + "," + from + "," + to + "," + what + ")",
                x.asks(l, told, m, from, to, what), y.asks(l, told, m, from, to, what));
            int n = near(below(3) == 0 ? 6 : 4);
            int w = near(3);
            is("all(" + l + "," + n + "," + w + ")", x.all(l, n, w), y.all(l, n, w));
        }
    }
}
