/** The edges of Terms 2, 3 and 5 and of promises 10 to 21, 35 to 38 and 41: trees, meanings, worn signs, short rows. */
public final class EdgeOfSignsTest extends Edges {
    private static final long MILLION_MILLIONS = 1000000000000L;
    /** A row of n signs has n - 1 nested sums in every way; signs 0, 1 mean 1, 2; sign 2 means 3 or 4. */
    private static final String SUMS = "rule 0 0 0 plus;sign 0 0 1;sign 1 0 2;sign 2 0 3;sign 2 0 4;near 1 2;";
    private static final String TWELVE = "0 0 0 0 0 0 0 0 0 0 0 0";
    /** Every sign becomes the next one, hand by hand; 9 becomes nothing. */
    private static final String CHAIN =
        "near 0 1;near 1 2;near 2 3;near 3 4;near 4 5;near 5 6;near 6 7;near 7 8;near 8 9;";
    /** Over 0 1 all fifty values: seven and eight readings, by sevens. */
    private static final String FIFTY = "rule 0 0 0 plus;sign 0 0 0;sign 0 0 1;sign 0 0 2;sign 0 0 3;sign 0 0 4;sign 0 0 5;"
        + "sign 0 0 6;sign 1 0 0;sign 1 0 7;sign 1 0 14;sign 1 0 21;sign 1 0 28;sign 1 0 35;sign 1 0 42;sign 1 0 49;";

    public static void main(String[] args) {
        EdgeOfSignsTest t = new EdgeOfSignsTest();
        t.valuesGoRound();
        t.unlikeTrees();
        t.oneSign();
        t.severalKinds();
        t.bothParts();
        t.allMeanings();
        t.allValuesOfOneKind();
        t.nearIsNoMeaning();
        t.orderOfTrees();
        t.manyTrees();
        t.productsOfPowers();
        t.lastOfLongs();
        t.endlessAndFew();
        t.trees();
        t.can();
        t.means();
        t.like();
        t.ways();
        t.tree();
        t.wornByHands();
        t.could();
        t.worn();
        t.lasts();
        t.briefSizes();
        t.briefJustOneTree();
        t.briefAgain();
        t.sureByHands();
        t.briefRefused();
        t.apartSizes();
        t.apartRefused();
        t.hole();
        t.idle();
        t.doubt();
        t.drawnNumbers();
        t.drawn();
        t.all();
        t.becomes();
        t.close("EdgeOfSignsTest");
    }

    /** A list under which a row 0 1 has just one tree, by one act. */
    private SilentTable joining(String act, int u, int v) {
        return table("0 rule 0 1 2 " + act + ";sign 0 1 " + u + ";sign 1 2 " + v + ";", "1 0 1");
    }

    private void joins(String act, int u, int v, int want) {
        SilentTable x = joining(act, u, v);
        String call = u + " " + act + " " + v;
        is(call, x.means(0, 0, 0), want);
        is(call + " by its tree", x.tree(0, 0, 0, 0), want);
        is(call + " by ways", x.ways(0, 0, want), 1);
        is(call + " alone", x.means(0, 0, NONE), 1);
    }

    private void valuesGoRound() {
        sentence("Terms 2", "PLUS: u + v, remainder by 50");
        joins("plus", 0, 0, 0);
        joins("plus", 24, 25, 49);
        joins("plus", 25, 25, 0);
        joins("plus", 49, 1, 0);
        joins("plus", 1, 49, 0);
        joins("plus", 49, 49, 48);
        sentence("Terms 2", "LESS: u - v, 50 more, if that is below 0");
        joins("less", 49, 0, 49);
        joins("less", 49, 49, 0);
        joins("less", 0, 0, 0);
        joins("less", 0, 1, 49);
        joins("less", 0, 49, 1);
        joins("less", 48, 49, 49);
        sentence("Terms 2", "HEAD: u; TAIL: v; NOT: 49 - v");
        joins("head", 0, 49, 0);
        joins("head", 49, 0, 49);
        joins("tail", 0, 49, 49);
        joins("tail", 49, 0, 0);
        joins("not", 7, 0, 49);
        joins("not", 7, 49, 0);
        joins("not", 0, 24, 25);
        sentence("Terms 2", "its VALUE, u, v being those of both: all of them");
        for (int u = 0; u < 50; u++) {
            for (int v = 0; v < 50; v++) {
                is(u + " plus " + v, joining("plus", u, v).means(0, 0, 0), u + v < 50 ? u + v : u + v - 50);
                is(u + " less " + v, joining("less", u, v).means(0, 0, 0), u - v < 0 ? u - v + 50 : u - v);
                is(u + " not " + v, joining("not", u, v).means(0, 0, 0), 49 - v);
            }
        }
    }

    private void unlikeTrees() {
        sentence("Terms 2", "Two TREES are unlike, if a READING (by its number) is");
        SilentTable x = table("0 sign 0 0 5;sign 0 0 5;", "1 0");
        is("trees", x.trees(0, 0, 0, 0, 0), 2);
        is("ways", x.ways(0, 0, 5), 2);
        is("meanings", x.means(0, 0, NONE), 1);
        is("just one tree", x.all(0, 1, 1), 0);
        sentence("Terms 2", "Two TREES are unlike, if a RULE is");
        SilentTable y = table("0 rule 0 1 1 head;rule 0 1 1 head;sign 0 1 5;", "1 0 0");
        is("trees", y.trees(0, 0, 0, 0, 1), 2);
        is("meanings", y.means(0, 0, NONE), 1);
        is("the second one's rule", y.tree(0, 0, 1, 1), 1);
        sentence("Terms 2", "Two TREES are unlike, if a cut is");
        SilentTable z = table("0 rule 0 0 0 head;sign 0 0 5;", "1 0 0 0");
        is("trees", z.trees(0, 0, 0, 0, 2), 2);
        is("the second one's first part", z.tree(0, 0, 1, 2), 2);
    }

    private void oneSign() {
        sentence("Terms 2", "over one SIGN a READING of it with that KIND");
        SilentTable x = table("0 rule 0 1 1 head;rule 0 1 0 head;sign 0 1 5;sign 1 0 6;", "1 0", "1 1", "1 0 0");
        is("a reading of another kind", x.trees(0, 0, 0, 0, 0), 0);
        is("no meaning", x.means(0, 0, NONE), 0);
        is("of its kind", x.trees(0, 0, 1, 0, 0), 1);
        is("a reading of kind 0", x.means(0, 1, 0), 6);
        is("a rule needs two", x.trees(0, 2, 0, 0, 1), 1);
        is("and no more", x.trees(0, 2, 1, 0, 1), 0);
    }

    private void severalKinds() {
        sentence("Terms 2", "over more: a RULE for that KIND, a TREE of the first KIND over the first part, one of the second KIND over the other");
        // Every KIND is needed: 5 of 4 and 3, 2 of 5 and 1, 0 of 2 and 2.
        String kinds = "rule 2 5 1 plus;rule 5 4 3 less;rule 0 2 2 plus;sign 4 4 9;sign 3 3 4;sign 1 1 20;sign 2 2 30;sign 0 0 1;";
        SilentTable x = table("0 " + kinds, "1 4 3 1 2", "1 2 4 3 1", "1 4 3 1 4 3 1");
        is("9 - 4 + 20 + 30", x.means(0, 0, 0), 5);
        is("30 + 9 - 4 + 20", x.means(0, 1, 0), 5);
        is("twice 9 - 4 + 20", x.means(0, 2, 0), 0);
        for (int row = 0; row < 3; row++) {
            is("one meaning", x.means(0, row, NONE), 1);
            is("one way", x.ways(0, row, row == 2 ? 0 : 5), 1);
            is("one tree", x.tree(0, row, 0, 0), row == 2 ? 0 : 5);
            is("its rule", x.tree(0, row, 0, 1), 2);
            is("no other tree", x.tree(0, row, 1, 0), MISSING);
        }
        int[] want = {16, 8, 2, 4};
        for (int i = 0; i < 4; i++) {
            is("kinds of one sign", x.can(0, 0, i, i), want[i]);
        }
        is("kinds of 4 3", x.can(0, 0, 0, 1), 32);
        is("kinds of 4 3 1", x.can(0, 0, 0, 2), 4);
        is("kinds of 3 1", x.can(0, 0, 1, 2), 0);
        is("kinds of all", x.can(0, 0, 0, 3), 1);
        is("the first cut", x.tree(0, 0, 0, 2), 3);
        is("the other row's cut", x.tree(0, 1, 0, 2), 1);
        brief(x, 10, NONE, 2, 2);
        brief(x, 5, NONE, 2, 4, 3, 1);
        is("rows of four", x.all(0, 4, 0), 2);
    }

    private void bothParts() {
        sentence("Terms 2", "a TREE of the first KIND over the first part, one of the second KIND over the other: neither is enough");
        for (String act : new String[] {"head", "tail", "plus", "less", "not"}) {
            String list = "rule 0 1 2 " + act + ";rule 0 3 4 " + act + ";rule 1 5 5 " + act + ";sign 0 1 5;sign 1 4 6;";
            SilentTable x = table("0 " + list, "0 ", "1 0 0", "1 1 1", "1 0 1");
            for (int row = 0; row < 3; row++) {
                is(act + " means", x.means(0, row, NONE), 0);
                is(act + " trees", x.trees(0, row, 0, 0, 1), 0);
                is(act + " can", x.can(0, row, 0, 1), 0);
                is(act + " doubt", x.doubt(0, row, 0) + x.doubt(0, row, 1), 0);
                for (int value = 0; value < 50; value++) {
                    is(act + " ways", x.ways(0, row, value), 0);
                }
            }
            is(act + " apart", x.apart(0, 1, 0), NONE);
            is(act + " all", x.all(0, 2, 0) + x.all(0, 3, 0) + x.all(0, 4, 0), 0);
        }
    }

    /** What four calls say of the same trees, for every value, goes together. */
    private void allMeanings() {
        sentence("Terms 2", "MEANINGS of a ROW: VALUES of TREES of KIND 0: those of every READING, RULE and cut");
        String[] lists = {
            "rule 0 0 0 plus;rule 0 0 0 less;sign 0 0 1;sign 0 0 2;sign 1 0 49;sign 1 0 0;",
            "rule 0 1 1 head;rule 0 1 1 tail;rule 1 0 0 not;rule 1 1 0 plus;sign 0 1 7;sign 0 1 7;sign 1 0 0;sign 1 1 49;",
            "rule 0 0 1 head;rule 0 1 0 head;rule 1 0 0 plus;rule 1 2 1 less;sign 0 0 0;sign 0 1 0;sign 1 0 49;sign 1 2 0;sign 0 2 49;sign 0 2 49;",
            "rule 0 5 5 plus;rule 5 0 5 tail;rule 0 5 0 not;sign 0 5 3;sign 0 5 4;sign 0 5 3;sign 1 5 0;sign 1 0 25;sign 1 0 25;"};
        for (String list : lists) {
            SilentTable x = table("0 " + list, "1 0 1 0 1", "1 1 0 0 1 1 0", "1 1");
            for (int row = 0; row < 3; row++) {
                long trees = x.trees(0, row, 0, 0, x.row(row, NONE) - 1);
                int[] byTrees = new int[50];
                for (int n = 0; n < trees; n++) {
                    byTrees[x.tree(0, row, n, 0)]++;
                }
                int meanings = 0;
                for (int value = 0; value < 50; value++) {
                    is(list + " ways of " + value, x.ways(0, row, value), byTrees[value]);
                    if (byTrees[value] > 0) {
                        is(list + " meaning", x.means(0, row, meanings), value);
                        meanings++;
                    }
                }
                is(list + " meanings", x.means(0, row, NONE), meanings);
                is(list + " one more", x.tree(0, row, trees, 0), MISSING);
            }
        }
    }

    private void allValuesOfOneKind() {
        sentence("Terms 2", "MEANINGS of a ROW: a part may have all VALUES of one KIND, and one of another");
        SilentTable x = table("0 " + FIFTY + "rule 1 0 0 head;rule 0 1 2 tail;sign 2 2 7;", "1 0 1 2", "1 0 1");
        is("the part", x.means(0, 1, NONE), 50);
        is("its kinds", x.can(0, 1, 0, 1), 3);
        is("the whole", x.means(0, 0, NONE), 1);
        is("its meaning", x.means(0, 0, 0), 7);
        is("its ways", x.ways(0, 0, 7), 56);
    }

    private void nearIsNoMeaning() {
        sentence("Terms 2", "MEANINGS of a ROW: of its own SIGNS, whatever they may be taken for");
        SilentTable x = table("0 rule 0 0 0 plus;sign 0 0 5;sign 1 0 6;near 0 1;near 2 0;near 1 2;", "1 0", "1 1", "1 2 0", "2 look 1 0;says 0 0;");
        is("means", x.means(0, 0, NONE), 1);
        is("like", x.like(0, 0, 1), 0);
        is("like, the other way round", x.like(0, 1, 0), 0);
        is("hole", x.hole(0, 2, 1), 0);
        is("ways", x.ways(0, 0, 6), 0);
        is("trees", x.trees(0, 0, 0, 0, 0), 1);
        is("idle", x.idle(0, 2), 2);
        is("knows", x.knows(0, 0, 1, 0, NONE), 1);
        is("sure", x.sure(0, 0, 0), 2);
        is("all", x.all(0, 1, 1), 2);
        brief(x, 6, NONE, 1);
        brief(x, 6, 0, 1);
        brief(x, 5, 1);
    }

    private void orderOfTrees() {
        sentence("Terms 2", "over one SIGN by numbers of READINGS");
        SilentTable x = table("0 sign 0 0 9;sign 1 0 8;sign 0 1 8;sign 0 0 3;sign 0 0 6;", "1 0");
        int[] readings = {0, 3, 4};
        for (int n = 0; n < 3; n++) {
            is("reading of tree " + n, x.tree(0, 0, n, 10), readings[n]);
        }
        is("no further one", x.tree(0, 0, 3, 10), MISSING);
        sentence("Terms 2", "over more by cuts (the shortest first part first), of one cut by RULES,"
            + " of one RULE by the first part's TREES, then by the second part's");
        SilentTable y = table("0 rule 0 0 0 tail;rule 0 0 0 head;sign 0 0 1;sign 0 0 2;", "1 0 0 0");
        // A part of two signs has 8 trees, so of either cut each rule has 16, and there are 64.
        is("trees", y.trees(0, 0, 0, 0, 2), 64);
        for (int n = 0; n < 64; n++) {
            String call = "tree " + n;
            int inRule = n % 16;
            boolean shortFirst = n < 32;
            int pair = shortFirst ? inRule % 8 : inRule / 2;
            int single = shortFirst ? inRule / 8 : inRule % 2;
            int first = shortFirst ? single : pair / 2 % 2;
            int second = shortFirst ? pair / 2 % 2 : pair % 2;
            int third = shortFirst ? pair % 2 : single;
            int pairValue = 1 + (pair < 4 ? pair % 2 : pair / 2 % 2);
            boolean head = n / 16 % 2 == 1;
            is(call + " cut", y.tree(0, 0, n, 2), shortFirst ? 1 : 2);
            is(call + " rule", y.tree(0, 0, n, 1), head ? 1 : 0);
            is(call + " first reading", y.tree(0, 0, n, 10), first);
            is(call + " second reading", y.tree(0, 0, n, 11), second);
            is(call + " third reading", y.tree(0, 0, n, 12), third);
            is(call + " value", y.tree(0, 0, n, 0), head == shortFirst ? single + 1 : pairValue);
        }
        is("no further one", y.tree(0, 0, 64, 0), MISSING);
        SilentTable z = table("0 rule 1 2 2 not;rule 2 2 2 not;rule 0 2 2 head;rule 5 2 2 not;rule 0 2 2 tail;sign 0 1 7;sign 0 2 1;sign 0 2 2;", "1 0 0");
        int[] values = {1, 1, 2, 2, 1, 2, 1, 2};
        for (int n = 0; n < 8; n++) {
            is("value of tree " + n, z.tree(0, 0, n, 0), values[n]);
            is("rule of tree " + n, z.tree(0, 0, n, 1), n < 4 ? 2 : 4);
            is("readings of tree " + n, z.tree(0, 0, n, 10) * 10 + z.tree(0, 0, n, 11), 11 + n / 2 % 2 * 10 + n % 2);
        }
        is("no further one", z.tree(0, 0, 8, 0), MISSING);
    }

    private void manyTrees() {
        String chain = "rule 0 1 0 head;".repeat(5);
        // Over n signs ten times as many as over n - 1, and nine more: 10^n - 1.
        String below = chain + "rule 0 4 3 head;".repeat(3) + "rule 3 2 3 head;" + "sign 0 1 7;".repeat(2)
            + "sign 0 4 7;".repeat(3) + "sign 0 2 7;" + "sign 1 0 7;".repeat(9) + "sign 1 3 7;";
        // Eleven times one of five rules, 4 * 2^10 * 5 readings: 10^12.
        String just = chain + "sign 2 1 7;".repeat(4) + "sign 0 1 7;".repeat(2) + "sign 1 0 7;".repeat(5);
        // One tree more, by the last rule but one.
        String above = just + "rule 0 4 5 head;rule 5 3 5 head;sign 2 4 8;sign 0 3 7;sign 1 5 7;";
        SilentTable x = table("0 " + below, "1 0 0 0 0 0 0 0 0 0 0 0 1", "1 2 0 0 0 0 0 0 0 0 0 0 1");
        sentence("Terms 2", "All numbers of TREES are told as 1000000000000, if they are more: one less than that");
        is("trees", x.trees(0, 0, 0, 0, 11), MILLION_MILLIONS - 1);
        is("of eleven", x.trees(0, 0, 0, 1, 11), MILLION_MILLIONS / 10 - 1);
        is("ways", x.ways(0, 0, 7), MILLION_MILLIONS - 1);
        is("the last tree", x.tree(0, 0, MILLION_MILLIONS - 2, 0), 7);
        is("behind it", x.tree(0, 0, MILLION_MILLIONS - 1, 0), MISSING);
        sentence("Terms 2", "All numbers of TREES are told as 1000000000000, if they are more: just as many");
        instead(x, LIST, 0, just);
        is("trees", x.trees(0, 1, 0, 0, 11), MILLION_MILLIONS);
        is("ways", x.ways(0, 1, 7), MILLION_MILLIONS);
        is("the last tree", x.tree(0, 1, MILLION_MILLIONS - 1, 1), 4);
        is("its last reading", x.tree(0, 1, MILLION_MILLIONS - 1, 21), 10);
        is("behind it", x.tree(0, 1, MILLION_MILLIONS, 0), MISSING);
        sentence("Terms 2", "All numbers of TREES are told as 1000000000000, if they are more: one more");
        instead(x, LIST, 0, above);
        is("trees", x.trees(0, 1, 0, 0, 11), MILLION_MILLIONS);
        is("ways", x.ways(0, 1, 7), MILLION_MILLIONS);
        is("ways of the one", x.ways(0, 1, 8), 1);
        is("tree 10^12 - 1", x.tree(0, 1, MILLION_MILLIONS - 1, 1), 4);
        // It is there, though the number that is told is not more than 10^12.
        is("the last tree", x.tree(0, 1, MILLION_MILLIONS, 1), 5);
        is("its value", x.tree(0, 1, MILLION_MILLIONS, 0), 8);
        is("behind it", x.tree(0, 1, MILLION_MILLIONS + 1, 0), MISSING);
        sentence("Terms 2", "All numbers of TREES are told as 1000000000000, if they are more: the most that can be");
        SilentTable y = table("0 " + "rule 0 0 0 head;".repeat(10) + "sign 0 0 7;".repeat(16), "1 " + TWELVE);
        is("trees", y.trees(0, 0, 0, 0, 11), MILLION_MILLIONS);
        is("ways", y.ways(0, 0, 7), MILLION_MILLIONS);
        is("ways of another", y.ways(0, 0, 6), 0);
        is("most of four", y.all(0, 4, 2), 327680000);
        is("a tree", y.tree(0, 0, MILLION_MILLIONS - 1, 0), 7);
        is("meanings", y.means(0, 0, NONE), 1);
        is("the last that can be asked for", y.tree(0, 0, Long.MAX_VALUE, 0), 7);
        for (String act : new String[] {"plus", "less"}) {
            SilentTable z = table("0 " + ("rule 0 0 0 " + act + ";").repeat(10) + "sign 0 0 0;".repeat(14) + "sign 1 0 0;sign 1 0 0;",
                "1 " + TWELVE, "1 1 0 0 0 0 0 0 0 0 0 0 0", "1 0 0 0 0 0 0 0 0 0 0 0 1");
            for (int row = 0; row < 3; row++) {
                is(act + " ways", z.ways(0, row, 0), MILLION_MILLIONS);
                is(act + " ways of another", z.ways(0, row, 1), 0);
                is(act + " trees", z.trees(0, row, 0, 0, 11), MILLION_MILLIONS);
            }
        }
        // The last eleven signs have more trees than any n, so the first one has its first reading.
        for (long n : new long[] {0, 1, MILLION_MILLIONS - 1}) {
            is("the first reading of tree " + n, y.tree(0, 0, n, 10), 0);
            is("the first cut of tree " + n, y.tree(0, 0, n, 2), 1);
            is("the last reading of tree " + n, y.tree(0, 0, n, 21), n % 16);
        }
    }

    /** 4 times 2^62 trees, on either side: in 64 bits that would be none at all. */
    private void productsOfPowers() {
        sentence("Terms 2", "All numbers of TREES are told as 1000000000000, if they are more: 2^64");
        String signs = "sign 0 4 5;".repeat(4) + "sign 1 1 7;".repeat(4) + "sign 1 2 0;".repeat(8);
        String[] acts = {"head", "tail", "plus", "less", "not"};
        int[] fewFirst = {5, 7, 12, 48, 42};
        int[] fewLast = {7, 5, 12, 2, 44};
        for (int i = 0; i < acts.length; i++) {
            String left = "rule 1 1 2 head;".repeat(8);
            SilentTable x = table("0 rule 0 4 1 " + acts[i] + ";" + left + signs, "0 rule 0 1 4 " + acts[i] + ";" + left + signs,
                "1 0 1 1 1 1 1 1 1 1 1 1 1", "1 1 1 1 1 1 1 1 1 1 1 1 0");
            for (int side = 0; side < 2; side++) {
                String call = acts[i] + (side == 0 ? ", few first" : ", few last");
                int value = side == 0 ? fewFirst[i] : fewLast[i];
                is(call + ": ways", x.ways(side, side, value), MILLION_MILLIONS);
                is(call + ": ways of another", x.ways(side, side, value + 1), 0);
                is(call + ": trees", x.trees(side, side, 0, 0, 11), MILLION_MILLIONS);
                is(call + ": can", x.can(side, side, 0, 11), 1);
                is(call + ": doubt", x.doubt(side, side, side * 11), 4);
                is(call + ": the last tree that can be asked for", x.tree(side, side, Long.MAX_VALUE, 0), value);
            }
        }
    }

    private void lastOfLongs() {
        String chain = "rule 0 4 1 head;" + "rule 1 1 2 head;".repeat(8) + "sign 1 1 7;".repeat(4) + "sign 1 2 0;".repeat(8);
        String row = "1 0 1 1 1 1 1 1 1 1 1 1 1";
        sentence("Promise 13", "the n-th TREE: of 2^62 the last one is there, and none behind it");
        SilentTable x = table("0 " + chain + "sign 0 4 5;", row);
        is("the last one", x.tree(0, 0, (1L << 62) - 1, 10), 12);
        is("its second reading", x.tree(0, 0, (1L << 62) - 1, 11), 3);
        is("its last reading", x.tree(0, 0, (1L << 62) - 1, 21), 11);
        is("behind it", x.tree(0, 0, 1L << 62, 0), MISSING);
        is("far behind it", x.tree(0, 0, Long.MAX_VALUE, 0), MISSING);
        sentence("Promise 13", "the n-th TREE: of 2^63 the last one is the last that can be asked for");
        SilentTable y = table("0 " + chain + "sign 0 4 5;sign 0 4 6;", row);
        is("its value", y.tree(0, 0, Long.MAX_VALUE, 0), 6);
        is("its first reading", y.tree(0, 0, Long.MAX_VALUE, 10), 13);
        is("its second reading", y.tree(0, 0, Long.MAX_VALUE, 11), 3);
        for (int place = 2; place < 12; place++) {
            is("its reading of sign " + place, y.tree(0, 0, Long.MAX_VALUE, 10 + place), 11);
        }
        is("the last of the first half", y.tree(0, 0, (1L << 62) - 1, 10), 12);
        is("the first of the second half", y.tree(0, 0, 1L << 62, 10), 13);
        is("the last but one", y.tree(0, 0, Long.MAX_VALUE - 1, 21), 10);
        is("ways of either", x.ways(0, 0, 5) + y.ways(0, 0, 6), 2 * MILLION_MILLIONS);
    }

    /** More trees than a long can hold, beside two, and times two. */
    private void endlessAndFew() {
        String row = "1 0 1 1 1 1 1 1 1 1 1 1 1";
        String chain = "rule 1 1 2 head;".repeat(7) + "sign 1 2 0;".repeat(10);
        long many = 2824752490000000000L;
        sentence("Promise 13", "the n-th TREE: of 3 * 70^10 the last one is there, and none behind it");
        SilentTable x = table("0 rule 0 4 1 head;" + chain + "sign 1 1 7;".repeat(3) + "sign 0 4 5;", row);
        is("the last one", x.tree(0, 0, 3 * many - 1, 0), 5);
        is("its last reading", x.tree(0, 0, 3 * many - 1, 21), 9);
        is("behind it", x.tree(0, 0, 3 * many, 0), MISSING);
        sentence("Terms 2", "All numbers of TREES are told as 1000000000000, if they are more: 4 * 70^10 and two");
        String both = chain + "sign 1 1 7;".repeat(2) + "sign 0 4 5;".repeat(2) + "rule 5 5 3 head;sign 1 5 7;sign 1 3 0;";
        String[] orders = {"rule 0 4 1 head;rule 0 4 5 head;", "rule 0 4 5 head;rule 0 4 1 head;"};
        for (int i = 0; i < 2; i++) {
            SilentTable y = table("0 " + orders[i] + both, row);
            is("trees", y.trees(0, 0, 0, 0, 11), MILLION_MILLIONS);
            is("trees of the few", y.trees(0, 0, 5, 1, 11), 1);
            is("ways", y.ways(0, 0, 5), MILLION_MILLIONS);
            is("the third tree's rule", y.tree(0, 0, 2, 1), i);
            is("the last that can be asked for", y.tree(0, 0, Long.MAX_VALUE, 1), i);
        }
        sentence("Promise 13", "by the first part's TREES, then by the second part's: more first ones than can be asked for");
        String first = "rule 1 1 2 head;".repeat(8) + "sign 1 2 0;".repeat(10) + "sign 1 1 7;".repeat(2) + "sign 0 4 5;".repeat(2);
        SilentTable z = table("0 rule 0 1 4 tail;" + first, "1 1 1 1 1 1 1 1 1 1 1 1 0", "1 1 1 1 1 1 1 1 1 1 1 1 1");
        is("trees", z.trees(0, 0, 0, 0, 11), MILLION_MILLIONS);
        is("of the first part", z.trees(0, 0, 1, 0, 10), MILLION_MILLIONS);
        is("ways", z.ways(0, 0, 5), MILLION_MILLIONS);
        for (long n : new long[] {0, 1, 2, 39, 40, MILLION_MILLIONS + 21, Long.MAX_VALUE - 1, Long.MAX_VALUE}) {
            is("value of tree " + n, z.tree(0, 0, n, 0), 5);
            is("cut of tree " + n, z.tree(0, 0, n, 2), 11);
            is("last reading of tree " + n, z.tree(0, 0, n, 21), 12 + n % 2);
            is("last reading but one of tree " + n, z.tree(0, 0, n, 20), n / 2 % 10);
        }
        is("no tree without the last sign", z.tree(0, 1, 0, 0), MISSING);
    }

    private void trees() {
        SilentTable x = table("0 " + SUMS, "0 ", "1 " + TWELVE, "1 1", "1 2 2");
        sentence("Promise 10", "NONE: there is none such (of any): LIST, ROW");
        takes("list", 0, 1, NONE, l -> x.trees(l, 0, 0, 0, 0));
        takes("row", 0, 2, NONE, r -> x.trees(0, r, 0, 0, 0));
        sentence("Promise 10", "NONE: there is none such (of any): KIND");
        takes("kind", 0, 5, NONE, k -> x.trees(0, 0, k, 0, 11));
        sentence("Promise 10", "over SIGNS from .. to of a ROW. NONE: there is none such");
        for (int from = -2; from <= 13; from++) {
            for (int to = -2; to <= 13; to++) {
                long got = x.trees(0, 0, 0, from, to);
                String call = from + " .. " + to;
                if (from >= 0 && from <= to && to < 12) {
                    is(call, got > 0, true);
                } else {
                    is(call, got, NONE);
                }
            }
        }
        takes("to", 3, 11, NONE, to -> x.trees(0, 0, 0, 3, to));
        takes("from", 0, 3, NONE, from -> x.trees(0, 0, 0, from, 3));
        takes("to of one", 0, 0, NONE, to -> x.trees(0, 1, 0, 0, to));
        takes("from of one", 0, 0, NONE, from -> x.trees(0, 1, 0, from, 0));
        sentence("Promise 10", "How many TREES of a KIND there are: none is 0");
        is("an empty list", x.trees(1, 0, 0, 0, 0), 0);
        is("another kind", x.trees(0, 0, 5, 0, 11), 0);
        is("twelve signs", x.trees(0, 0, 0, 0, 11), 58786);
    }

    private void can() {
        String six = "sign 0 0 0;sign 0 1 0;sign 0 2 0;sign 0 3 0;sign 0 4 0;sign 0 5 0;";
        String rules = "rule 0 0 1 not;rule 1 0 1 not;rule 2 0 1 not;rule 3 0 1 not;rule 4 0 1 not;rule 5 4 5 not;";
        SilentTable x = table("0 " + rules + six, "0 ", "1 " + TWELVE, "1 1", "1 0 1");
        sentence("Promise 38", "CAN: KINDS (bits) of which there is a TREE: all, none");
        is("one sign", x.can(0, 0, 0, 0), 63);
        is("twelve signs", x.can(0, 0, 0, 11), 63);
        is("a sign without readings", x.can(0, 1, 0, 0), 0);
        is("a part with one", x.can(0, 2, 0, 1), 0);
        is("an empty list", x.can(1, 0, 0, 11), 0);
        sentence("Promise 38", "NONE: there is none such (of any)");
        takes("list", 0, 1, NONE, l -> x.can(l, 0, 0, 0));
        takes("row", 0, 2, NONE, r -> x.can(0, r, 0, 0));
        takes("from", 0, 4, NONE, from -> x.can(0, 0, from, 4));
        takes("to", 4, 11, NONE, to -> x.can(0, 0, 4, to));
        takes("to of one", 0, 0, NONE, to -> x.can(0, 1, 0, to));
    }

    private void means() {
        SilentTable x = table("0 " + FIFTY, "0 sign 0 0 49;", "1 0 1", "1 2", "1 0");
        sentence("Promise 11", "How many MEANINGS (k NONE), or the k-th one by numbers: all fifty, one, none");
        is("all", x.means(0, 0, NONE), 50);
        for (int k = 0; k < 50; k++) {
            is("the k-th", x.means(0, 0, k), k);
        }
        is("one", x.means(1, 2, NONE), 1);
        is("this one", x.means(1, 2, 0), 49);
        is("none", x.means(0, 1, NONE), 0);
        sentence("Promise 11", "-2: there is none such (of any)");
        takes("k of fifty", NONE, 49, MISSING, k -> x.means(0, 0, k));
        takes("k of one", NONE, 0, MISSING, k -> x.means(1, 2, k));
        takes("k of none", NONE, NONE, MISSING, k -> x.means(0, 1, k));
        takes("list", 0, 1, MISSING, l -> x.means(l, 0, NONE));
        takes("row", 0, 2, MISSING, r -> x.means(0, r, NONE));
        sentence("Terms 2", "MEANINGS of a ROW: VALUES of TREES of KIND 0 over the whole of it");
        SilentTable y = table("0 rule 1 0 0 plus;sign 0 0 1;sign 0 1 2;", "1 0 0", "1 0");
        is("of kind 1 alone", y.means(0, 0, NONE), 0);
        is("of kind 0", y.means(0, 1, NONE), 1);
    }

    private void like() {
        SilentTable x = table("0 " + FIFTY, "0 ", "1 0 1", "1 1 0", "1 2");
        sentence("Promise 41", "LIKE two ROWS: how many MEANINGS both have: all, none");
        is("all", x.like(0, 0, 1), 50);
        is("itself", x.like(0, 0, 0), 50);
        is("none", x.like(0, 0, 2), 0);
        is("none of both", x.like(0, 2, 2), 0);
        is("an empty list", x.like(1, 0, 1), 0);
        sentence("Promise 41", "NONE: there is none such (of any)");
        takes("list", 0, 1, NONE, l -> x.like(l, 0, 1));
        takes("row", 0, 2, NONE, r -> x.like(0, r, 1));
        takes("other", 0, 2, NONE, r -> x.like(0, 1, r));
    }

    private void ways() {
        SilentTable x = table("0 " + FIFTY, "0 sign 0 0 49;sign 0 0 0;sign 0 0 49;", "1 0 1", "1 0", "1 2");
        sentence("Promise 12", "NONE: a VALUE not 0 .. 49");
        takes("value", 0, 49, NONE, v -> x.ways(0, 0, v));
        sentence("Promise 12", "How many TREES .. have a VALUE: none is 0");
        is("value 49", x.ways(1, 1, 49), 2);
        is("value 0", x.ways(1, 1, 0), 1);
        is("value 1", x.ways(1, 1, 1), 0);
        is("a row without trees", x.ways(0, 2, 0), 0);
        is("49 by 49 and 0, by 42 .. 7", x.ways(0, 0, 49), 1);
        is("0 by 0 and 0, by 1 and 49", x.ways(0, 0, 0), 2);
        sentence("Promise 12", "NONE: there is none such (of either)");
        takes("list", 0, 1, NONE, l -> x.ways(l, 0, 0));
        takes("row", 0, 2, NONE, r -> x.ways(0, r, 0));
    }

    private void tree() {
        SilentTable x = table("0 " + SUMS, "0 ", "1 0 1 2", "1 2", "1 " + TWELVE);
        sentence("Promise 13", "-2: there is none such (of any): the n-th TREE");
        takes("n of four", 0, 3, MISSING, n -> x.tree(0, 0, n, 0));
        takes("n of two", 0, 1, MISSING, n -> x.tree(0, 1, n, 0));
        is("the first of 58786", x.tree(0, 2, 0, 0), 12);
        is("the last of 58786", x.tree(0, 2, 58785, 0), 12);
        is("behind it", x.tree(0, 2, 58786, 0), MISSING);
        for (long n : new long[] {Long.MIN_VALUE, Long.MAX_VALUE, 1L << 32, -1L << 32, (1L << 32) + 1, Integer.MAX_VALUE + 1L}) {
            is("n " + n, x.tree(0, 0, n, 0), MISSING);
        }
        is("n of none", x.tree(1, 0, 0, 0), MISSING);
        sentence("Promise 13", "-2: there is none such (of any): LIST, ROW");
        takes("list", 0, 0, MISSING, l -> x.tree(l, 0, 0, 0));
        takes("row", 0, 2, MISSING, r -> x.tree(0, r, 0, 0));
        sentence("Promise 13", "10 + i: the READING of SIGN i; -2 for another what");
        takesJust("what of three", MISSING, what -> x.tree(0, 0, 3, what), 0, 1, 2, 10, 11, 12);
        takesJust("what of one", MISSING, what -> x.tree(0, 1, 1, what), 0, 1, 2, 10);
        takesJust("what of twelve", MISSING, what -> x.tree(0, 2, 0, what), 0, 1, 2, 10, 11, 12, 13, 14, 15, 16, 17, 18, 19, 20, 21);
        takesJust("what of no tree", MISSING, what -> x.tree(0, 0, 4, what));
        sentence("Promise 13", "1: its RULE (NONE over one SIGN), 2: how many SIGNS its first part has (likewise)");
        is("rule", x.tree(0, 1, 0, 1), NONE);
        is("first part", x.tree(0, 1, 0, 2), NONE);
        is("rule of twelve", x.tree(0, 2, 0, 1), 0);
        is("first part of the first", x.tree(0, 2, 0, 2), 1);
        is("first part of the last", x.tree(0, 2, 58785, 2), 11);
        // What one tree had does not stay for another one.
        is("rule", x.tree(0, 1, 1, 1), NONE);
        is("first part", x.tree(0, 1, 1, 2), NONE);
    }

    private void wornByHands() {
        SilentTable x = table("0 sign 0 0 5;sign 8 0 6;sign 9 0 7;" + CHAIN, "1 0", "1 1", "1 9");
        sentence("Terms 3", "WORN by h hands, h 0 .. 9: h times each SIGN stays or becomes one of those it is NEAR to");
        for (int h = 0; h <= 9; h++) {
            is("rows by " + h, x.worn(0, 0, h), h + 1);
            is("rows of the last by " + h, x.worn(0, 2, h), 1);
            is("meanings by " + h, x.could(0, 0, h, NONE), h < 8 ? 1 : h < 9 ? 2 : 3);
        }
        sentence("Terms 3", "COULD: MEANINGS that any of them has");
        is("of a row that has none", x.could(0, 1, 6, NONE), 0);
        is("by one hand more", x.could(0, 1, 7, 0), 6);
        sentence("Terms 3", "WHOLE: the ROW has MEANINGS, and COULD has none but these");
        is("the row has none", x.lasts(0, 1), NONE);
        is("others by eight hands", x.lasts(0, 0), 7);
        is("near to nothing", x.lasts(0, 2), 9);
    }

    private void could() {
        SilentTable x = table("0 " + FIFTY + "near 2 0;near 3 1;", "0 sign 0 0 49;", "1 2 3", "1 0 2", "1 0");
        sentence("Promise 14", "-2: another h");
        takes("h", 0, 9, MISSING, h -> x.could(0, 0, h, NONE));
        sentence("Promise 14", "how many (k NONE), or the k-th one by numbers. -2: there is none such (of any)");
        is("none by 0", x.could(0, 0, 0, NONE), 0);
        is("all by 1", x.could(0, 0, 1, NONE), 50);
        takes("k of fifty", NONE, 49, MISSING, k -> x.could(0, 0, 1, k));
        takes("k of none", NONE, NONE, MISSING, k -> x.could(0, 0, 0, k));
        takes("k of one", NONE, 0, MISSING, k -> x.could(1, 2, 9, k));
        is("the first", x.could(0, 0, 1, 0), 0);
        is("the last", x.could(0, 0, 9, 49), 49);
        takes("list", 0, 1, MISSING, l -> x.could(l, 0, 0, NONE));
        takes("row", 0, 2, MISSING, r -> x.could(0, r, 0, NONE));
    }

    private void worn() {
        SilentTable x = table("0 " + CHAIN + "near 9 0;", "0 ", "1 " + TWELVE, "1 5", "1 9 9 9 9 9 9 9 9 9 9 9 9");
        sentence("Promise 15", "How many ROWS WORN by h may come: one at least, 10^12 at most");
        long rows = 1;
        for (int h = 0; h <= 9; h++) {
            rows = 1;
            for (int i = 0; i < 12; i++) {
                rows *= h + 1;
            }
            is("twelve signs by " + h, x.worn(0, 0, h), rows);
            is("by a list without near", x.worn(1, 0, h), 1);
            is("one sign by " + h, x.worn(0, 1, h), h + 1);
        }
        is("the most", rows, MILLION_MILLIONS);
        sentence("Promise 15", "NONE: there is none such (of either), or another h");
        takes("h", 0, 9, NONE, h -> x.worn(0, 0, h));
        takes("list", 0, 1, NONE, l -> x.worn(l, 0, 0));
        takes("row", 0, 2, NONE, r -> x.worn(0, r, 0));
    }

    private void lasts() {
        sentence("Promise 16", "LASTS: the greatest h, 0 .. 9, by which it is WHOLE");
        for (int far = 1; far <= 9; far++) {
            // Sign 0 becomes the only one with another meaning by so many hands.
            SilentTable x = table("0 sign 0 0 49;sign " + far + " 0 0;" + CHAIN, "1 0", "1 " + TWELVE);
            is("another meaning by " + far, x.lasts(0, 0), far - 1);
            is("twelve signs mean nothing", x.lasts(0, 1), NONE);
        }
        SilentTable y = table("0 sign 0 0 49;sign 9 0 49;" + CHAIN, "0 rule 0 0 0 head;sign 0 0 1;", "1 0", "1 5", "1 " + TWELVE);
        is("the same meaning by nine hands", y.lasts(0, 0), 9);
        is("near to nothing", y.lasts(1, 2), 9);
        sentence("Promise 16", "NONE: by none, or there is none such (of either)");
        is("by none", y.lasts(0, 1), NONE);
        takes("list", 0, 1, NONE, l -> y.lasts(l, 0));
        takes("row", 0, 2, NONE, r -> y.lasts(1, r));
    }

    private void brief(SilentTable x, int value, int h, int... signs) {
        String call = "brief of " + value + " by " + h;
        is(call, x.brief(0, value, h, 0), signs.length == 0 ? NONE : signs.length);
        for (int i = 0; i < signs.length; i++) {
            is(call + " sign " + i, x.brief(0, value, h, 1 + i), signs[i]);
        }
        is(call + " behind", x.brief(0, value, h, 1 + signs.length), NONE);
    }

    private void briefSizes() {
        sentence("Terms 3", "BRIEF of a VALUE: the ROW of the fewest SIGNS, 1 to 4");
        // Only nines ahead of an eight, each of which adds 12.
        SilentTable x = table("0 rule 0 1 0 plus;sign 9 1 12;sign 8 0 0;");
        brief(x, 0, NONE, 8);
        brief(x, 12, NONE, 9, 8);
        brief(x, 24, NONE, 9, 9, 8);
        brief(x, 36, NONE, 9, 9, 9, 8);
        brief(x, 48, NONE);
        brief(x, 1, NONE);
        sentence("Terms 3", "BRIEF of a VALUE, 0 .. 49");
        SilentTable y = table("0 sign 0 0 49;sign 9 0 0;");
        brief(y, 49, NONE, 0);
        brief(y, 0, NONE, 9);
        brief(y, 1, NONE);
        brief(y, 48, NONE);
        sentence("Terms 3", "the fewest SIGNS .. of several the first by rows");
        SilentTable z = table("0 rule 0 1 2 plus;rule 0 2 1 plus;sign 9 0 5;sign 7 0 5;sign 3 1 4;sign 2 2 1;sign 4 2 1;sign 1 1 6;sign 5 2 0;");
        brief(z, 5, NONE, 7);
        brief(z, 6, NONE, 1, 5);
        brief(z, 7, NONE, 1, 2);
        brief(z, 4, NONE, 3, 5);
        SilentTable none = table("0 ");
        for (int value = 0; value < 50; value++) {
            is("brief of an empty list", none.brief(0, value, NONE, 0), NONE);
        }
    }

    private void briefJustOneTree() {
        sentence("Terms 3", "which has just one TREE of KIND 0, and that VALUE");
        brief(table("0 sign 0 0 5;sign 0 0 5;"), 5, NONE);
        brief(table("0 sign 0 0 5;sign 0 0 6;"), 5, NONE);
        brief(table("0 sign 0 0 0;sign 0 0 0;"), 0, NONE);
        brief(table("0 rule 0 1 1 head;rule 0 1 1 head;sign 0 1 0;"), 0, NONE);
        brief(table("0 sign 0 0 5;sign 0 1 5;"), 5, NONE, 0);
        brief(table("0 sign 0 1 5;"), 5, NONE);
        brief(table("0 rule 0 0 0 head;sign 0 0 5;sign 0 0 5;sign 1 0 5;"), 5, NONE, 1);
        // 0 has two trees, 0 1 has two, and 1 0 has just one.
        brief(table("0 rule 0 1 2 head;rule 0 2 1 head;rule 0 2 1 head;sign 0 2 5;sign 1 1 5;"), 5, NONE, 1, 0);
        // Three signs have two trees, by their cuts.
        brief(table("0 rule 0 0 0 plus;sign 0 0 1;"), 2, NONE, 0, 0);
        brief(table("0 rule 0 0 0 plus;sign 0 0 1;"), 3, NONE);
    }

    private void briefAgain() {
        sentence("Promise 17", "BRIEF, SURE, ALL, APART of a LIST as it is told now");
        SilentTable x = table("0 rule 0 0 0 plus;sign 0 0 5;sign 3 0 0;near 0 3;", "0 sign 0 0 5;");
        brief(x, 5, 9);
        brief(x, 5, NONE, 0);
        brief(x, 5, 9);
        brief(x, 5, 0, 0);
        is("all", x.all(0, 1, 0) * 1000 + x.all(0, 2, 1) * 10 + x.all(0, 3, 2), 2042);
        is("apart", x.apart(0, 1, 0) * 10 + x.apart(0, 1, 1), 13);
        instead(x, LIST, 0, "sign 0 0 5;sign 0 0 5;sign 7 1 0;sign 8 0 5;sign 9 0 0;sign 9 0 0;");
        is("no value", x.brief(0, -1, 0, 0), NONE);
        is("no value", x.brief(0, -1, NONE, 0), NONE);
        brief(x, 5, 0, 8);
        brief(x, 0, 0);
        brief(x, 0, NONE);
        is("all", x.all(0, 1, 0) * 1000 + x.all(0, 1, 1) * 100 + x.all(0, 1, 2), 3102);
        is("all of two", x.all(0, 2, 0) + x.all(0, 2, 1) + x.all(0, 2, 2), 0);
        is("apart", x.apart(0, 1, 0) * 10 + x.apart(0, 1, 1), 18);
        instead(x, LIST, 1, "sign 8 0 5;sign 9 0 0;");
        is("apart", x.apart(0, 1, 0) * 10 + x.apart(0, 1, 1), 10);
        instead(x, LIST, 0, "sign 8 0 5;sign 9 0 0;");
        is("apart", x.apart(0, 1, 0), NONE);
    }

    private void sureByHands() {
        sentence("Terms 3", "SURE of it by h: likewise, but the ROW is WHOLE by h, too");
        SilentTable x = table("0 sign 0 0 5;sign 1 0 5;sign 9 0 6;" + CHAIN);
        for (int h = NONE; h <= 9; h++) {
            if (h < 9) {
                brief(x, 5, h, 0);
            } else {
                brief(x, 5, h);
            }
            brief(x, 6, h, 9);
        }
        // In any order, also by as many hands as the value is.
        brief(x, 5, 5, 0);
        brief(x, 5, 9);
        brief(x, 5, 5, 0);
        brief(x, 5, 9);
        brief(x, 5, 8, 0);
        // A worn row with another tree of the same value keeps it whole; a longer row may be whole where a short one is not.
        SilentTable y = table("0 rule 0 1 1 head;sign 0 0 5;sign 1 0 6;sign 2 1 5;sign 3 1 5;sign 3 1 5;near 0 1;near 2 3;");
        brief(y, 5, NONE, 0);
        brief(y, 5, 0, 0);
        brief(y, 5, 1, 2, 2);
        brief(y, 5, 9, 2, 2);
    }

    private void briefRefused() {
        SilentTable x = table("0 rule 0 1 0 plus;sign 9 1 12;sign 8 0 0;sign 7 0 49;", "0 sign 0 0 0;");
        sentence("Promise 17", "NONE: there is no such LIST");
        takes("list", 0, 1, NONE, l -> x.brief(l, 0, NONE, 0));
        sentence("Promise 17", "NONE: another VALUE");
        refuses("value", NONE, v -> x.brief(0, v, NONE, 0), -1, 50, 51, 100, MAX, MIN, 256, 1 << 16);
        not("value 0", x.brief(0, 0, NONE, 0), NONE);
        not("value 49", x.brief(0, 49, NONE, 0), NONE);
        sentence("Promise 17", "(h 0 .. 9) .. (h NONE: BRIEF); NONE: another h");
        takes("h", NONE, 9, NONE, h -> x.brief(0, 36, h, 0));
        sentence("Promise 17", "what 0: how many SIGNS, 1 + i: the i-th. NONE for another what");
        takesJust("what of one", NONE, what -> x.brief(0, 0, NONE, what), 0, 1);
        takesJust("what of two", NONE, what -> x.brief(0, 12, 3, what), 0, 1, 2);
        takesJust("what of four", NONE, what -> x.brief(0, 36, NONE, what), 0, 1, 2, 3, 4);
        takesJust("what of none", NONE, what -> x.brief(0, 48, NONE, what));
        takesJust("what of none by hands", NONE, what -> x.brief(0, 48, 9, what));
    }

    private void apartSizes() {
        sentence("Terms 3", "APART of two LISTS: the ROW of the fewest SIGNS, 1 to 3");
        String one = "rule 0 1 0 plus;sign 9 1 12;sign 8 0 0;";
        SilentTable x = table("0 " + one, "0 " + one);
        is("no row", x.apart(0, 1, 0), NONE);
        instead(x, LIST, 1, "rule 0 1 0 plus;sign 9 1 12;sign 8 0 1;");
        is("one sign", x.apart(0, 1, 0) * 10 + x.apart(0, 1, 1), 18);
        instead(x, LIST, 1, "rule 0 1 0 plus;sign 9 1 13;sign 8 0 0;");
        is("two signs", x.apart(0, 1, 0) * 100 + x.apart(0, 1, 1) * 10 + x.apart(0, 1, 2), 298);
        instead(x, LIST, 1, "rule 0 1 2 plus;sign 9 1 12;sign 8 0 0;sign 8 2 0;");
        is("three signs", x.apart(0, 1, 0) * 1000 + x.apart(0, 1, 1) * 100 + x.apart(0, 1, 2) * 10 + x.apart(0, 1, 3), 3998);
        // Over three signs the same, over four not.
        instead(x, LIST, 1, "rule 0 1 2 plus;rule 2 1 3 plus;sign 9 1 12;sign 8 0 0;sign 8 2 0;sign 8 3 0;");
        is("four signs", x.apart(0, 1, 0), NONE);
        SilentTable none = table("0 ", "0 near 0 1;rule 0 0 0 not;");
        is("no meanings in both", none.apart(0, 1, 0), NONE);
        sentence("Terms 3", "whose MEANINGS are not the same in both; of several the first by rows");
        instead(none, LIST, 0, "sign 9 0 0;sign 5 0 0;");
        is("none and one", none.apart(0, 1, 1), 5);
        is("one and none", none.apart(1, 0, 1), 5);
        instead(none, LIST, 1, "sign 9 0 0;sign 9 0 0;sign 5 0 0;sign 5 0 1;");
        is("one and two", none.apart(0, 1, 1), 5);
        instead(none, LIST, 1, "sign 9 0 0;sign 9 0 0;sign 5 0 0;sign 5 1 1;");
        is("another number of trees is not another meaning", none.apart(0, 1, 0), NONE);
        instead(none, LIST, 1, "sign 9 0 0;sign 5 0 1;sign 5 0 0;");
        is("one of two", none.apart(0, 1, 1), 5);
        instead(none, LIST, 1, "sign 9 0 0;sign 5 0 0;sign 0 0 0;");
        is("the first sign", none.apart(0, 1, 0) * 10 + none.apart(0, 1, 1), 10);
        String zero = "rule 0 1 1 head;sign 0 1 1;sign 0 1 2;sign 1 1 0;";
        instead(none, LIST, 0, zero);
        instead(none, LIST, 1, zero + "rule 0 1 1 head;rule 0 1 1 tail;");
        is("by a further rule", none.apart(0, 1, 0) * 100 + none.apart(0, 1, 1) * 10 + none.apart(0, 1, 2), 201);
        instead(none, LIST, 1, "rule 0 1 1 tail;rule 0 1 1 head;sign 0 1 1;sign 0 1 2;sign 1 1 0;");
        is("by a rule more, told first", none.apart(0, 1, 0) * 100 + none.apart(0, 1, 1) * 10 + none.apart(0, 1, 2), 201);
        instead(none, LIST, 1, zero + "rule 0 0 1 head;");
        is("the first row of three", none.apart(0, 1, 0) * 1000 + none.apart(0, 1, 1) * 100 + none.apart(0, 1, 2) * 10 + none.apart(0, 1, 3), 3000);
        instead(none, LIST, 1, "sign 0 1 1;sign 0 1 2;sign 1 1 0;");
        is("the first row of two", none.apart(0, 1, 0) * 100 + none.apart(0, 1, 1) * 10 + none.apart(0, 1, 2), 200);
    }

    private void apartRefused() {
        SilentTable x = table("0 rule 0 1 0 plus;sign 9 1 12;sign 8 0 0;", "0 rule 0 1 2 plus;sign 9 1 12;sign 8 0 0;sign 8 2 0;");
        sentence("Promise 18", "NONE: there is none such (of either)");
        takes("one", 0, 0, NONE, l -> x.apart(l, 1, 0));
        takes("two", 1, 1, NONE, l -> x.apart(0, l, 0));
        refuses("both", NONE, l -> x.apart(l, l, 0), -1, 0, 1, 2, MAX, MIN);
        sentence("Promise 18", "what as brief(). NONE for another what");
        takesJust("what of three", NONE, what -> x.apart(0, 1, what), 0, 1, 2, 3);
        takesJust("what of none", NONE, what -> x.apart(0, 0, what));
        instead(x, LIST, 1, "");
        takesJust("what of one", NONE, what -> x.apart(0, 1, what), 0, 1);
    }

    private void hole() {
        StringBuilder ten = new StringBuilder("0 rule 0 0 0 plus;");
        for (int s = 0; s < 10; s++) {
            ten.append("sign ").append(s).append(" 0 ").append(s).append(";");
        }
        SilentTable x = table(ten.toString(), "0 sign 5 1 1;", "1 " + TWELVE, "1 3", "1 3 3");
        sentence("Terms 3", "HOLE: for a place the SIGNS (bits): all, none");
        is("all of one", x.hole(0, 1, 0), 1023);
        for (int place = 0; place < 12; place++) {
            is("all of twelve", x.hole(0, 0, place), 1023);
            is("none", x.hole(1, 0, place), 0);
        }
        sentence("Terms 3", "by which the ROW would have a MEANING");
        instead(x, LIST, 1, "rule 0 1 2 not;sign 3 1 0;sign 9 2 0;sign 0 2 0;sign 4 0 0;");
        is("behind 3", x.hole(1, 2, 1), 1 | 1 << 9);
        is("ahead of 3", x.hole(1, 2, 0), 0);
        is("of one sign", x.hole(1, 1, 0), 1 << 4);
        sentence("Promise 19", "NONE: there is none such (of any)");
        takes("place of twelve", 0, 11, NONE, place -> x.hole(0, 0, place));
        takes("place of one", 0, 0, NONE, place -> x.hole(0, 1, place));
        takes("list", 0, 1, NONE, l -> x.hole(l, 0, 0));
        takes("row", 0, 2, NONE, r -> x.hole(0, r, 0));
    }

    private void idle() {
        SilentTable x = table("0 rule 0 0 0 head;sign 0 0 5;", "0 rule 0 0 0 plus;sign 0 0 5;sign 1 0 0;", "1 " + TWELVE, "1 0", "1 0 0");
        sentence("Terms 3", "IDLE: places (bits) any one of which can be left out: all, none");
        is("all of twelve", x.idle(0, 0), 4095);
        is("both of two", x.idle(0, 2), 3);
        is("none of two", x.idle(1, 2), 0);
        instead(x, ROW, 2, "1 0 0 1");
        is("the first and the last", x.idle(1, 2), 1 | 8);
        sentence("Terms 3", "what remains (one SIGN at least)");
        is("of one", x.idle(0, 1), 0);
        instead(x, ROW, 2, "7");
        is("of one that means nothing", x.idle(0, 2), 0);
        sentence("Terms 3", "has just the same MEANINGS");
        instead(x, LIST, 0, "rule 0 0 0 head;sign 0 0 5;sign 1 0 5;sign 1 0 6;");
        instead(x, ROW, 2, "1 0");
        // 1 0 means 5 or 6, as does 1; 0 means 5 alone.
        is("fewer are not the same", x.idle(0, 2), 2);
        instead(x, ROW, 2, "0 1");
        // 0 1 means 5, as does 0; 1 means 5 or 6.
        is("more are not the same", x.idle(0, 2), 2);
        sentence("Promise 20", "NONE: there is none such (of either)");
        takes("list", 0, 1, NONE, l -> x.idle(l, 0));
        takes("row", 0, 2, NONE, r -> x.idle(0, r));
    }

    private void doubt() {
        SilentTable x = table("0 rule 0 0 0 head;" + "sign 0 0 5;".repeat(16), "0 ", "1 " + TWELVE, "1 0", "1 0 1");
        sentence("Terms 3", "DOUBT of a place: how many READINGS of its SIGN are in any TREE: all, none");
        for (int place = 0; place < 12; place++) {
            is("all sixteen", x.doubt(0, 0, place), 16);
            is("none", x.doubt(1, 0, place), 0);
        }
        is("all of one sign", x.doubt(0, 1, 0), 16);
        is("a row without trees", x.doubt(0, 2, 0), 0);
        instead(x, LIST, 1, "rule 0 0 0 head;sign 0 0 1;sign 1 0 2;sign 1 0 3;sign 2 0 4;");
        is("its own readings alone", x.doubt(1, 2, 0) * 10 + x.doubt(1, 2, 1), 12);
        sentence("Terms 3", "in any TREE of KIND 0 over the whole");
        instead(x, LIST, 1, "rule 0 1 2 head;sign 0 1 0;sign 0 1 0;sign 0 2 0;sign 0 0 0;sign 0 3 0;");
        instead(x, ROW, 2, "0 0");
        is("the first place", x.doubt(1, 2, 0), 2);
        is("the second place", x.doubt(1, 2, 1), 1);
        is("one sign", x.doubt(1, 1, 0), 1);
        // Of kind 2 one reading, of kind 3 two, of kind 4 three; kind 5 is in no tree of kind 0.
        String readings = "sign 0 2 0;sign 0 3 0;sign 0 3 0;sign 0 4 0;sign 0 4 0;sign 0 4 0;sign 0 5 0;";
        instead(x, LIST, 1, "rule 0 2 3 plus;rule 1 5 5 plus;" + readings);
        is("the first place", x.doubt(1, 2, 0), 1);
        is("the second place", x.doubt(1, 2, 1), 2);
        instead(x, LIST, 1, "rule 0 2 3 plus;rule 0 4 2 plus;rule 5 3 4 plus;" + readings);
        is("the first place by two rules", x.doubt(1, 2, 0), 4);
        is("the second place by two rules", x.doubt(1, 2, 1), 3);
        instead(x, LIST, 1, "rule 0 2 1 plus;rule 0 1 3 plus;rule 0 4 4 plus;rule 1 5 5 plus;" + readings);
        is("both parts are needed", x.doubt(1, 2, 0) * 10 + x.doubt(1, 2, 1), 33);
        instead(x, ROW, 2, "0 0 0");
        is("the first of three", x.doubt(1, 2, 0), 2);
        is("the second of three", x.doubt(1, 2, 1), 1);
        is("the third of three", x.doubt(1, 2, 2), 3);
        sentence("Promise 21", "NONE: there is none such (of any)");
        takes("place of twelve", 0, 11, NONE, place -> x.doubt(0, 0, place));
        takes("place of one", 0, 0, NONE, place -> x.doubt(0, 1, place));
        takes("list", 0, 1, NONE, l -> x.doubt(l, 0, 0));
        takes("row", 0, 2, NONE, r -> x.doubt(0, r, 0));
    }

    private void drawnNumbers() {
        StringBuilder nine = new StringBuilder("0 ");
        for (int s = 0; s < 10; s++) {
            nine.append(s == 4 ? "" : "near 4 " + s + ";");
        }
        SilentTable x = table(nine.toString() + "near 7 0;", "1 4", "1 7", "1 0 7 4");
        sentence("Terms 4", "x becomes x * 1103515245 + 12345 (of 32 bits), it is x shifted right by 16 without sign");
        int[] seeds = {MIN, MAX, -1, 0, 1, 2, 3, 5, 8, 13, 21, 34, 55, 89, 144, 233, 377, 610, 987, 1597, 4, 6, 7, 9, 10, -2, -3, -5, -8, 1 << 16, 1 << 30};
        int seen = 0;
        for (int seed : seeds) {
            int number = (int) (next(seed) / 65536 % 10);
            seen |= 1 << number;
            int want = number == 0 ? 4 : number <= 4 ? number - 1 : number;
            is("seed " + seed, x.drawn(0, 0, 1, seed, 0), want);
        }
        is("every number below 10 came", seen, 1023);
        sentence("Terms 4", "a number below 1 and how many it is NEAR to: 0 it stays, k the k-th of these");
        for (int seed : seeds) {
            is("of one, seed " + seed, x.drawn(0, 1, 1, seed, 0), next(seed) / 65536 % 2 == 0 ? 7 : 0);
        }
        sentence("Terms 4", "h hands, each SIGN in order (also a SIGN that is NEAR to none draws)");
        for (int seed : seeds) {
            long second = next((int) next(seed));
            is("the first, seed " + seed, x.drawn(0, 2, 1, seed, 0), 0);
            is("the second, seed " + seed, x.drawn(0, 2, 1, seed, 1), second / 65536 % 2 == 0 ? 7 : 0);
        }
    }

    private static long next(int seed) {
        return ((seed & 0xffffffffL) * 1103515245L + 12345) & 0xffffffffL;
    }

    private void drawn() {
        SilentTable x = table("0 " + CHAIN, "0 ", "1 " + TWELVE, "1 5", "1 1 2");
        sentence("Promise 35", "DRAWN, h 0 .. 9: the i-th SIGN then. NONE: another h");
        takes("h", 0, 9, NONE, h -> x.drawn(0, 0, h, 7, 0));
        is("by no hand", x.drawn(0, 0, 0, 1, 11), 0);
        is("by no hand", x.drawn(0, 2, 0, 1, 1), 2);
        is("near to none", x.drawn(1, 2, 9, 1, 1), 2);
        sentence("Promise 35", "NONE: there is none such (of any)");
        takes("i of twelve", 0, 11, NONE, i -> x.drawn(0, 0, 9, 7, i));
        takes("i of one", 0, 0, NONE, i -> x.drawn(0, 1, 9, 7, i));
        takes("list", 0, 1, NONE, l -> x.drawn(l, 0, 1, 7, 0));
        takes("row", 0, 2, NONE, r -> x.drawn(0, r, 1, 7, 0));
        for (int seed : new int[] {MIN, -1, 0, 1, MAX}) {
            not("any seed", x.drawn(0, 0, 9, seed, 11), NONE);
        }
    }

    private void all() {
        StringBuilder ten = new StringBuilder("0 rule 0 0 0 plus;");
        for (int s = 0; s < 10; s++) {
            ten.append("sign ").append(s).append(" 0 ").append(s).append(";");
        }
        SilentTable x = table(ten.toString(), "0 ");
        sentence("Terms 5", "ALL of n SIGNS, n 1 .. 4: all ROWS, none");
        int[] rows = {10, 100, 1000, 10000};
        int[] trees = {1, 1, 2, 5};
        for (int n = 1; n <= 4; n++) {
            is("have a meaning", x.all(0, n, 0), rows[n - 1]);
            is("just one tree", x.all(0, n, 1), n < 3 ? rows[n - 1] : 0);
            is("the most", x.all(0, n, 2), trees[n - 1]);
            for (int what = 0; what < 3; what++) {
                is("an empty list", x.all(1, n, what), 0);
            }
        }
        instead(x, LIST, 1, "sign 9 0 0;sign 9 0 0;sign 9 1 0;");
        is("one row of one sign", x.all(1, 1, 0), 1);
        is("not just one tree", x.all(1, 1, 1), 0);
        is("two trees", x.all(1, 1, 2), 2);
        is("no row of two signs", x.all(1, 2, 0), 0);
        sentence("Promise 36", "NONE: another n");
        takes("n", 1, 4, NONE, n -> x.all(0, n, 0));
        sentence("Promise 36", "NONE: for another what");
        takesJust("what", NONE, what -> x.all(0, 4, what), 0, 1, 2);
        sentence("Promise 36", "NONE: there is no such LIST");
        takes("list", 0, 1, NONE, l -> x.all(l, 1, 0));
    }

    private void becomes() {
        SilentTable x = table("0 " + CHAIN, "0 ", "1 0", "1 9", "1 0 0");
        sentence("Terms 5", "BECOMES: the fewest h, 0 .. 9, by which a ROW may be WORN into another one");
        is("itself", x.becomes(0, 0, 0), 0);
        is("itself, near to nothing", x.becomes(1, 2, 2), 0);
        for (int s = 0; s <= 9; s++) {
            instead(x, ROW, 1, "" + s);
            is("the sign " + s, x.becomes(0, 0, 1), s);
            is("back from it", x.becomes(0, 1, 0), s == 0 ? 0 : NONE);
        }
        instead(x, ROW, 1, "3 8");
        is("the slowest of them", x.becomes(0, 2, 1), 8);
        instead(x, ROW, 1, "8 3");
        is("the slowest of them", x.becomes(0, 2, 1), 8);
        sentence("Promise 37", "NONE: it can't, they are of unlike length");
        is("it can't", x.becomes(0, 1, 2), NONE);
        is("it can't without near", x.becomes(1, 2, 1), NONE);
        is("unlike length", x.becomes(0, 0, 2), NONE);
        is("unlike length", x.becomes(0, 2, 0), NONE);
        sentence("Promise 37", "NONE: there is none such (of any)");
        takes("list", 0, 1, NONE, l -> x.becomes(l, 0, 0));
        takes("row", 0, 0, NONE, r -> x.becomes(0, r, 0));
        takes("other", 1, 2, NONE, r -> x.becomes(0, 2, r));
        refuses("both", NONE, r -> x.becomes(0, r, r), -1, 3, 4, MAX, MIN);
    }
}
