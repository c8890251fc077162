/** Each promise by answers worked out by hand: ordinary inputs, the edges that the document names, wrong inputs. */
public final class PromiseTest {
    private static final int NONE = SilentTable.NONE;
    private static final int LIST = 0;
    private static final int ROW = 1;
    private static final int MEAL = 2;
    private static final int HOUSE = 3;

    /** One rule, sums; sign 2 has two readings; sign 1 may be taken for sign 2. */
    private static final String SUMS = "rule 0 0 0 plus;sign 0 0 1;sign 1 0 2;sign 2 0 3;sign 2 0 4;near 1 2;";
    private static final String MEAL_TEXT =
        "look 1 0;says 0 0;look 2 1;says 0 1;says 1 5;away 1;says 0 2;look 0 3;says 3 7;look 0 1;look 3 0;";
    private static final String HOUSE_TEXT = "hidden 7;pair 0 1;most 2 0;order 9 5;seen 2;";

    private final Due due = new Due();

    public static void main(String[] args) {
        PromiseTest t = new PromiseTest();
        t.newObject();
        t.feedAndEnd();
        t.text();
        t.faultOfForm();
        t.faultOfNumbers();
        t.faultOfMany();
        t.faultAtTheEnd();
        t.faultOrder();
        t.listRuleReading();
        t.row();
        t.treesAndCan();
        t.treesWithoutEnd();
        t.meansAndLike();
        t.acts();
        t.waysAndTree();
        t.couldWornLasts();
        t.brief();
        t.apart();
        t.holeIdleDoubt();
        t.mealAndDeed();
        t.looks();
        t.caught();
        t.knowsAndSure();
        t.passedAndReaches();
        t.watch();
        t.law();
        t.breaksSinsMildest();
        t.eachLaw();
        t.drawn();
        t.all();
        t.becomes();
        t.asks();
        t.hears();
        t.count();
        t.images();
        t.due.close("PromiseTest");
    }

    private static SilentTable table(String... texts) {
        return Due.table(texts);
    }

    private void is(String call, long got, long want) {
        due.is(call, got, want);
    }

    private void fault(int sort, String text, int what, int place) {
        SilentTable x = new SilentTable();
        String call = "text(" + sort + ") of '" + text + "'";
        is(call, Due.tell(x, sort, text), what == 0 ? 0 : NONE);
        is(call + " fault(0)", x.fault(0), what);
        is(call + " fault(1)", x.fault(1), place);
        is(call + " count", x.count(sort), what == 0 ? 1 : 0);
        is(call + " tape", x.end(1), NONE);
    }

    private static String times(String part, int n) {
        return part.repeat(n);
    }

    private void newObject() {
        SilentTable x = new SilentTable();
        for (int sort = 0; sort < 4; sort++) {
            is("new count", x.count(sort), 0);
        }
        for (int k = 0; k < 3; k++) {
            due.is("new again", x.again(k), false);
        }
        is("new fault(0)", x.fault(0), 0);
        is("new fault(1)", x.fault(1), NONE);
        is("new end(0)", x.end(0), 0);
        is("new end(1)", x.end(1), NONE);
        is("NONE", SilentTable.NONE, -1);
    }

    private void feedAndEnd() {
        SilentTable x = new SilentTable();
        for (int n = 1; n <= 30; n++) {
            is("feed", x.feed(0x30313233, 0, -1, 5, 6), n * 20);
        }
        is("feed over 600", x.feed(1, 2, 3, 4, 5), NONE);
        is("end(601)", x.end(601), NONE);
        is("end(600)", x.end(600), 600);
        is("end(581)", x.end(581), 581);
        is("feed over 600 by one", x.feed(1, 2, 3, 4, 5), NONE);
        is("end(580)", x.end(580), 580);
        is("feed to 600", x.feed(1, 2, 3, 4, 5), 600);
        is("end(-1)", x.end(-1), NONE);
        is("end(MIN)", x.end(Integer.MIN_VALUE), NONE);
        is("end(0)", x.end(0), 0);
        is("end(1)", x.end(1), NONE);
        // The highest byte comes first: '1' ' ' '2' ' ' in each number.
        is("feed", x.feed(0x31203220, 0x33203420, 0x35203620, 0x37203820, 0x39203020), 20);
        is("text", x.text(ROW, NONE), 0);
        for (int k = 0; k < 10; k++) {
            is("row", x.row(0, k), (k + 1) % 10);
        }
    }

    private void text() {
        SilentTable x = new SilentTable();
        int[] most = {2, 3, 2, 2};
        String[] texts = {"near 1 2;", "5", "away 0;", "seen 1;"};
        for (int sort = 0; sort < 4; sort++) {
            for (int n = 0; n < most[sort]; n++) {
                is("text further", Due.tell(x, sort, texts[sort]), n);
                is("tape is empty", x.end(1), NONE);
            }
            noTextIsRead(x, texts[sort], sort, NONE);
            noTextIsRead(x, texts[sort], sort, most[sort]);
            noTextIsRead(x, texts[sort], sort, -2);
            noTextIsRead(x, texts[sort], sort, Integer.MIN_VALUE);
            noTextIsRead(x, "?", sort, Integer.MAX_VALUE);
            Due.put(x, texts[sort]);
            is("in the place of the last", x.text(sort, most[sort] - 1), most[sort] - 1);
            is("count", x.count(sort), most[sort]);
        }
        Due.put(x, "7 8");
        is("row in the place of row 1", x.text(ROW, 1), 1);
        is("row 1", x.row(1, NONE), 2);
        is("row 0", x.row(0, NONE), 1);
        Due.put(x, "x");
        is("fault", x.text(ROW, 1), NONE);
        is("row 1 stays", x.row(1, 1), 8);
        is("fault told", x.fault(0), 1);
        noTextIsRead(x, "y", 4, NONE);
        noTextIsRead(x, "5", -1, NONE);
        noTextIsRead(x, "5", Integer.MAX_VALUE, 0);
        noTextIsRead(x, "5", Integer.MIN_VALUE, 1);
        noTextIsRead(new SilentTable(), "5", ROW, 0);
        is("row 1 stays", x.row(1, 0), 7);
        is("fault(2)", x.fault(2), NONE);
        is("fault(-1)", x.fault(-1), NONE);
    }

    /** text() answers -2: the tape is taken all the same, and there is no FAULT, whatever it held. */
    private void noTextIsRead(SilentTable x, String text, int sort, int at) {
        String call = "text(" + sort + ", " + at + ")";
        int there = x.count(sort);
        Due.put(x, text);
        is(call, x.text(sort, at), -2);
        is(call + " fault(0)", x.fault(0), 0);
        is(call + " fault(1)", x.fault(1), NONE);
        is(call + " count", x.count(sort), there);
        is(call + " end", x.end(1), NONE);
        is(call + " feed", x.feed(0, 0, 0, 0, 0), 20);
        is(call + " with nothing on the tape", x.end(0) + x.text(sort, at), -2);
    }

    private void faultOfForm() {
        fault(LIST, "", 0, NONE);
        fault(LIST, " \n ", 0, NONE);
        fault(LIST, "rule 0 0 0 plus;", 0, NONE);
        fault(LIST, "rule0 0\n0plus ;sign 00 05 049;", 1, 26);
        fault(LIST, "rule0 0\n0plus ;sign 00 05 49;", 0, NONE);
        fault(LIST, "rule 0 0 0 more;", 1, 11);
        fault(LIST, "rule 0 0 0;", 1, 10);
        fault(LIST, "rule 0 0 0 plus", 1, 15);
        fault(LIST, "rule 0 0 0 plus  ", 1, 17);
        fault(LIST, "rule 0 0 0 plus rule", 1, 16);
        fault(LIST, "rules 0 0 0 plus;", 1, 0);
        fault(LIST, "rul", 1, 0);
        fault(LIST, "near 1;", 1, 6);
        fault(LIST, "near 1 2 3;", 1, 9);
        fault(LIST, "near 1 123;", 1, 7);
        fault(LIST, "near 1 2;;", 1, 9);
        fault(LIST, "Near 1 2;", 1, 0);
        fault(LIST, "neaR 1 2;", 1, 0);
        fault(LIST, "near 1\t2;", 1, 6);
        fault(LIST, "near 1 2" + (char) 200 + ";", 1, 8);
        fault(LIST, "near 1 -2;", 1, 7);
        fault(LIST, "says 0 0;", 1, 0);
        fault(LIST, "head", 1, 0);
        fault(ROW, "1;", 1, 1);
        fault(ROW, "123", 1, 0);
        fault(ROW, "1 2 345 x", 1, 4);
        fault(ROW, "1 a", 1, 2);
        fault(ROW, "01 9\n0", 0, NONE);
        fault(MEAL, "away;", 1, 4);
        fault(MEAL, "seats 4; look 1 2", 1, 17);
        fault(MEAL, "never 1;", 1, 0);
        fault(HOUSE, "pair 0;", 1, 6);
        fault(HOUSE, "most 1 2 ; hidden 1;seen 2;order 1 1;never 9;pair 3 3;", 0, NONE);
        fault(HOUSE, "away 0;", 1, 0);
        fault(HOUSE, "hidden 1 2;", 1, 9);
    }

    private void faultOfNumbers() {
        fault(LIST, "rule 6 0 0 plus;", 2, 5);
        fault(LIST, "rule 0 6 0 plus;", 2, 7);
        fault(LIST, "rule 0 0 06 plus;", 2, 9);
        fault(LIST, "rule 5 5 5 not;", 0, NONE);
        fault(LIST, "sign 10 0 0;", 2, 5);
        fault(LIST, "sign 0 6 0;", 2, 7);
        fault(LIST, "sign 0 0 50;", 2, 9);
        fault(LIST, "sign 9 5 49;", 0, NONE);
        fault(LIST, "near 10 1;", 2, 5);
        fault(LIST, "near 1 10;", 2, 7);
        fault(LIST, "near 1 1;", 2, 7);
        fault(LIST, "near 1 01;", 2, 7);
        fault(LIST, "near 10 10;", 2, 5);
        fault(ROW, "10", 2, 0);
        fault(ROW, "9 8 99", 2, 4);
        fault(MEAL, "seats 0;", 2, 6);
        fault(MEAL, "seats 7;", 2, 6);
        fault(MEAL, "seats 6;", 0, NONE);
        fault(MEAL, "seats 1;", 0, NONE);
        fault(MEAL, "look 6 1;", 2, 5);
        fault(MEAL, "look 1 6;", 2, 7);
        fault(MEAL, "look 1 1;", 2, 7);
        fault(MEAL, "away 6;", 2, 5);
        fault(MEAL, "says 6 0;", 2, 5);
        fault(MEAL, "says 0 10;", 2, 7);
        fault(MEAL, "says 3 9;says 1 1;", 0, NONE);
        fault(HOUSE, "never 10;", 2, 6);
        fault(HOUSE, "most 10 0;", 2, 5);
        fault(HOUSE, "most 0 10;", 2, 7);
        fault(HOUSE, "most 0 9;", 0, NONE);
        fault(HOUSE, "order 0 10;", 2, 8);
        fault(HOUSE, "order 10 0;", 2, 6);
        fault(HOUSE, "pair 0 10;", 2, 7);
        fault(HOUSE, "pair 10 0;", 2, 5);
        fault(HOUSE, "hidden 10;", 2, 7);
        fault(HOUSE, "seen 10;", 2, 5);
    }

    private void faultOfMany() {
        fault(LIST, times("rule 0 0 0 not;", 10), 0, NONE);
        fault(LIST, times("rule 0 0 0 not;", 11), 3, 150);
        fault(LIST, times("sign 0 0 0;", 16), 0, NONE);
        fault(LIST, times("sign 0 0 0;", 16) + " sign 0 0 0;", 3, 177);
        fault(LIST, times("sign 0 0 0;", 16) + times("rule 0 0 0 not;", 10) + times("near 0 1;", 20), 0, NONE);
        fault(ROW, times("1 ", 12), 0, NONE);
        fault(ROW, times("1 ", 13), 3, 24);
        fault(ROW, times("1 ", 12) + "10", 2, 24);
        fault(MEAL, times("away 0;", 50), 0, NONE);
        fault(MEAL, times("seats 3;", 10) + times("away 0;", 50), 0, NONE);
        fault(MEAL, times("away 0;", 48) + "says 0 1;look 0 1;\naway 0;", 3, 355);
        fault(HOUSE, times("seen 0;", 8), 0, NONE);
        fault(HOUSE, times("seen 0;", 8) + "never 0;", 3, 56);
    }

    private void faultAtTheEnd() {
        fault(ROW, "", 4, 0);
        fault(ROW, "  \n", 4, 3);
        fault(MEAL, "look 0 4;", 4, 9);
        fault(MEAL, "look 4 0; ", 4, 10);
        fault(MEAL, "away 4;", 4, 7);
        fault(MEAL, "says 4 0;", 4, 9);
        fault(MEAL, "says 0 4;", 0, NONE);
        fault(MEAL, "says 4 0;seats 5;", 0, NONE);
        fault(MEAL, "seats 5;says 4 0;seats 4;", 4, 25);
        fault(MEAL, "seats 2;seats 6;look 5 0;", 0, NONE);
    }

    private void faultOrder() {
        fault(LIST, "rule 9 9 9 plus;near 1 1;sign 0 0 0", 1, 35);
        fault(LIST, "near 1 1;rule 9 0 0 plus;", 2, 7);
        fault(LIST, times("rule 0 0 0 not;", 10) + "rule 9 0 0 not;near 1 1;", 3, 150);
        fault(LIST, times("rule 0 0 0 not;", 9) + "near 1 1;rule 0 0 0 not;rule 0 0 0 not;", 2, 142);
        fault(LIST, times("rule 0 0 0 not;", 11) + "x", 1, 165);
        fault(MEAL, "seats 1;look 3 7;", 2, 15);
        fault(MEAL, "seats 1;look 3 3;", 2, 15);
    }

    private void listRuleReading() {
        SilentTable x = table("0 rule 5 1 2 head;rule 0 0 0 tail;rule 1 2 3 plus;rule 1 1 1 less;rule 2 2 2 not;"
            + "sign 9 5 49;sign 0 1 7;near 3 0;near 3 9;near 3 0;near 0 3;", "0 ");
        is("list rules", x.list(0, 0), 5);
        is("list readings", x.list(0, 1), 2);
        is("near of 3", x.list(0, 13), 1 | 1 << 9);
        is("near of 0", x.list(0, 10), 8);
        is("near of 9", x.list(0, 19), 0);
        is("list what 2", x.list(0, 2), NONE);
        is("list what 9", x.list(0, 9), NONE);
        is("list what 20", x.list(0, 20), NONE);
        is("list what -1", x.list(0, -1), NONE);
        is("list 1 rules", x.list(1, 0), 0);
        is("list 2", x.list(2, 0), NONE);
        is("list -1", x.list(-1, 0), NONE);
        for (int act = 0; act < 5; act++) {
            is("act", x.rule(0, act, 3), act);
        }
        is("rule kind", x.rule(0, 0, 0), 5);
        is("rule first", x.rule(0, 0, 1), 1);
        is("rule second", x.rule(0, 0, 2), 2);
        is("rule what 4", x.rule(0, 0, 4), NONE);
        is("rule what -1", x.rule(0, 0, -1), NONE);
        is("rule 5", x.rule(0, 5, 0), NONE);
        is("rule -1", x.rule(0, -1, 0), NONE);
        is("rule of list 1", x.rule(1, 0, 0), NONE);
        is("rule of list 2", x.rule(2, 0, 0), NONE);
        is("reading sign", x.reading(0, 0, 0), 9);
        is("reading kind", x.reading(0, 0, 1), 5);
        is("reading value", x.reading(0, 0, 2), 49);
        is("reading 1 value", x.reading(0, 1, 2), 7);
        is("reading what 3", x.reading(0, 0, 3), NONE);
        is("reading what -1", x.reading(0, 0, -1), NONE);
        is("reading 2", x.reading(0, 2, 0), NONE);
        is("reading -1", x.reading(0, -1, 0), NONE);
        is("reading of list -1", x.reading(-1, 0, 0), NONE);
    }

    private void row() {
        SilentTable x = table("1 3 1 4 1 5");
        is("row size", x.row(0, NONE), 5);
        is("row 0", x.row(0, 0), 3);
        is("row 4", x.row(0, 4), 5);
        is("row 5", x.row(0, 5), -2);
        is("row -2", x.row(0, -2), -2);
        is("no row", x.row(1, 0), -2);
        is("no row", x.row(-1, NONE), -2);
    }

    private void treesAndCan() {
        SilentTable x = table("0 " + SUMS, "1 0 1 2", "1 2 2", "1 0 3", "0 rule 0 1 2 head;rule 3 1 2 tail;sign 0 1 5;sign 1 2 6;sign 1 5 6;");
        is("trees of 0 1 2", x.trees(0, 0, 0, 0, 2), 4);
        is("trees of 0 1", x.trees(0, 0, 0, 0, 1), 1);
        is("trees of 2", x.trees(0, 0, 0, 2, 2), 2);
        is("trees of kind 1", x.trees(0, 0, 1, 0, 2), 0);
        is("trees of 2 2", x.trees(0, 1, 0, 0, 1), 4);
        is("trees of 0 3", x.trees(0, 2, 0, 0, 1), 0);
        is("trees kind 6", x.trees(0, 0, 6, 0, 0), NONE);
        is("trees kind -1", x.trees(0, 0, -1, 0, 0), NONE);
        is("trees from -1", x.trees(0, 0, 0, -1, 0), NONE);
        is("trees to 3", x.trees(0, 0, 0, 0, 3), NONE);
        is("trees from behind to", x.trees(0, 0, 0, 2, 1), NONE);
        is("trees no list", x.trees(2, 0, 0, 0, 0), NONE);
        is("trees no row", x.trees(0, 3, 0, 0, 0), NONE);
        is("can 0 1 2", x.can(0, 0, 0, 2), 1);
        is("can 3", x.can(0, 2, 1, 1), 0);
        is("can 0 1 of the other list", x.can(1, 0, 0, 1), 1 | 8);
        is("can 1 of the other list", x.can(1, 0, 1, 1), 4 | 32);
        is("can 0 of the other list", x.can(1, 0, 0, 0), 2);
        is("can from -1", x.can(0, 0, -1, 1), NONE);
        is("can to 3", x.can(0, 0, 0, 3), NONE);
        is("can 2 to 1", x.can(0, 0, 2, 1), NONE);
        is("can no list", x.can(-1, 0, 0, 0), NONE);
        is("can no row", x.can(0, -1, 0, 0), NONE);
    }

    /** Numbers of trees far above all that a long can hold. */
    private void treesWithoutEnd() {
        SilentTable x = table("0 " + times("rule 0 0 0 head;", 10) + times("sign 0 0 7;", 16), "1 0 0 0 0 0 0 0 0 0 0 0 0", "1 0 0 0 0 0 0");
        long most = 1000000000000L;
        is("trees told", x.trees(0, 0, 0, 0, 11), most);
        is("trees of six told", x.trees(0, 1, 0, 0, 5), most);
        // 16 * 16 * 16 * 16 readings, 5 ways to cut, 10 * 10 * 10 rules.
        is("trees of four", x.trees(0, 0, 0, 3, 6), 327680000L);
        is("ways told", x.ways(0, 0, 7), most);
        is("ways of another", x.ways(0, 0, 8), 0);
        is("the most of four", x.all(0, 4, 2), 327680000L);
        is("value of a late tree", x.tree(0, 0, most - 1, 0), 7);
        is("first reading of a late tree", x.tree(0, 0, most - 1, 10), 0);
        is("last reading of tree 17", x.tree(0, 0, 17, 21), 1);
        is("last but one of tree 17", x.tree(0, 0, 17, 20), 1);
        // More trees than that there are, though their number is not told.
        is("the tree behind those", x.tree(0, 0, most, 0), 7);
        is("the last that can be asked for", x.tree(0, 0, Long.MAX_VALUE, 0), 7);
        is("a tree of four", x.tree(0, 0, -1, 0), -2);
        SilentTable y = table("0 rule 0 0 0 plus;sign 0 0 1;", "1 0 0 0 0 0 0 0 0 0 0 0 0");
        is("Catalan", y.trees(0, 0, 0, 0, 11), 58786);
        is("Catalan by value", y.ways(0, 0, 12), 58786);
        is("last tree", y.tree(0, 0, 58785, 2), 11);
        is("no such tree", y.tree(0, 0, 58786, 2), -2);
    }

    private void meansAndLike() {
        SilentTable x = table("0 " + SUMS, "1 0 1 2", "1 1 2 2", "1 0 3");
        is("means of 0 1 2", x.means(0, 0, NONE), 2);
        is("first", x.means(0, 0, 0), 6);
        is("second", x.means(0, 0, 1), 7);
        is("third", x.means(0, 0, 2), -2);
        is("k -2", x.means(0, 0, -2), -2);
        is("means of 0 3", x.means(0, 2, NONE), 0);
        is("first of none", x.means(0, 2, 0), -2);
        is("no list", x.means(1, 0, NONE), -2);
        is("no row", x.means(0, 3, NONE), -2);
        // 2 + {3, 4} + {3, 4} is 8, 9 or 10.
        is("means of 1 2 2", x.means(0, 1, NONE), 3);
        is("like itself", x.like(0, 0, 0), 2);
        is("like another", x.like(0, 0, 1), 0);
        is("like none", x.like(0, 2, 2), 0);
        Due.put(x, "1 1 2");
        is("row", x.text(ROW, 2), 2);
        // 2 + 2 + {3, 4} is 7 or 8.
        is("like by 7", x.like(0, 0, 2), 1);
        is("like by 8", x.like(0, 2, 1), 1);
        is("like no row", x.like(0, 0, 3), NONE);
        is("like no row", x.like(0, -1, 0), NONE);
        is("like no list", x.like(1, 0, 0), NONE);
    }

    private void acts() {
        String[] acts = {"head", "tail", "plus", "less", "not"};
        int[][] values = {{30, 45}, {45, 30}, {49, 49}, {0, 0}, {0, 49}, {25, 25}};
        for (int[] pair : values) {
            int u = pair[0];
            int v = pair[1];
            int[] want = {u, v, (u + v) % 50, Math.floorMod(u - v, 50), 49 - v};
            for (int act = 0; act < 5; act++) {
                SilentTable x = table("0 rule 0 1 2 " + acts[act] + ";sign 0 1 " + u + ";sign 1 2 " + v + ";", "1 0 1", "1 1 0");
                String call = acts[act] + " of " + u + " and " + v;
                is(call, x.means(0, 0, 0), want[act]);
                is(call, x.tree(0, 0, 0, 0), want[act]);
                is(call, x.ways(0, 0, want[act]), 1);
                is(call, x.means(0, 0, NONE), 1);
                is(call + " the other way round", x.means(0, 1, NONE), 0);
                is(call + " brief", x.brief(0, want[act], NONE, 0), 2);
            }
        }
    }

    private void waysAndTree() {
        SilentTable x = table("0 " + SUMS, "1 0 1 2", "1 2", "1 3");
        is("ways 6", x.ways(0, 0, 6), 2);
        is("ways 7", x.ways(0, 0, 7), 2);
        is("ways 8", x.ways(0, 0, 8), 0);
        is("ways 50", x.ways(0, 0, 50), NONE);
        is("ways -1", x.ways(0, 0, -1), NONE);
        is("ways no list", x.ways(1, 0, 6), NONE);
        is("ways no row", x.ways(0, 3, 6), NONE);
        is("ways of one sign", x.ways(0, 1, 4), 1);
        int[] value = {6, 7, 6, 7};
        int[] cut = {1, 1, 2, 2};
        int[] last = {2, 3, 2, 3};
        for (int n = 0; n < 4; n++) {
            is("tree value", x.tree(0, 0, n, 0), value[n]);
            is("tree rule", x.tree(0, 0, n, 1), 0);
            is("tree cut", x.tree(0, 0, n, 2), cut[n]);
            is("tree reading 0", x.tree(0, 0, n, 10), 0);
            is("tree reading 1", x.tree(0, 0, n, 11), 1);
            is("tree reading 2", x.tree(0, 0, n, 12), last[n]);
        }
        is("tree 4", x.tree(0, 0, 4, 0), -2);
        is("tree -1", x.tree(0, 0, -1, 0), -2);
        is("tree MAX", x.tree(0, 0, Long.MAX_VALUE, 0), -2);
        is("tree what 3", x.tree(0, 0, 0, 3), -2);
        is("tree what 9", x.tree(0, 0, 0, 9), -2);
        is("tree what 13", x.tree(0, 0, 0, 13), -2);
        is("tree what -1", x.tree(0, 0, 0, -1), -2);
        is("tree over one sign", x.tree(0, 1, 1, 0), 4);
        is("its rule", x.tree(0, 1, 1, 1), NONE);
        is("its cut", x.tree(0, 1, 1, 2), NONE);
        is("its reading", x.tree(0, 1, 1, 10), 3);
        is("tree of none", x.tree(0, 2, 0, 0), -2);
        is("tree no list", x.tree(1, 0, 0, 0), -2);
        is("tree no row", x.tree(0, 3, 0, 0), -2);
        // Of one cut by rules, of one rule by the first part's trees, then by the second part's.
        SilentTable y = table("0 rule 1 0 0 head;rule 0 1 1 head;rule 0 1 1 less;sign 0 1 1;sign 0 1 2;", "1 0 0");
        int[] want = {1, 1, 2, 2, 0, 49, 1, 0};
        for (int n = 0; n < 8; n++) {
            is("tree by rules", y.tree(0, 0, n, 0), want[n]);
            is("its rule", y.tree(0, 0, n, 1), n < 4 ? 1 : 2);
            is("its first reading", y.tree(0, 0, n, 10), n / 2 % 2);
            is("its second reading", y.tree(0, 0, n, 11), n % 2);
        }
        is("no further one", y.tree(0, 0, 8, 0), -2);
    }

    private void couldWornLasts() {
        SilentTable x = table("0 " + SUMS, "1 0 1 2", "1 0 0", "1 3");
        is("could by 0", x.could(0, 0, 0, NONE), 2);
        is("could by 1", x.could(0, 0, 1, NONE), 4);
        is("its first", x.could(0, 0, 1, 0), 6);
        is("its last", x.could(0, 0, 1, 3), 9);
        is("no further", x.could(0, 0, 1, 4), -2);
        is("k -2", x.could(0, 0, 1, -2), -2);
        is("h -1", x.could(0, 0, -1, NONE), -2);
        is("h 10", x.could(0, 0, 10, NONE), -2);
        is("h 9", x.could(0, 0, 9, NONE), 4);
        is("no list", x.could(1, 0, 0, NONE), -2);
        is("no row", x.could(0, 3, 0, NONE), -2);
        is("worn by 0", x.worn(0, 0, 0), 1);
        is("worn by 1", x.worn(0, 0, 1), 2);
        is("worn h -1", x.worn(0, 0, -1), NONE);
        is("worn h 10", x.worn(0, 0, 10), NONE);
        is("worn no list", x.worn(1, 0, 0), NONE);
        is("worn no row", x.worn(0, 3, 0), NONE);
        is("lasts of 0 1 2", x.lasts(0, 0), 0);
        is("lasts of 0 0", x.lasts(0, 1), 9);
        is("lasts of 3", x.lasts(0, 2), NONE);
        is("lasts no list", x.lasts(1, 0), NONE);
        is("lasts no row", x.lasts(0, 3), NONE);
        // A chain: sign 3 is the first that means something else.
        SilentTable y = table("0 sign 0 0 5;sign 1 0 5;sign 3 0 6;near 0 1;near 1 2;near 2 3;near 3 4;near 4 5;near 5 6;near 6 7;near 7 8;near 8 9;",
            "1 0", "1 2", "1 0 0 0 0 0 0 0 0 0 0 0 0");
        is("lasts of 0", y.lasts(0, 0), 2);
        is("could by 2", y.could(0, 0, 2, NONE), 1);
        is("could by 3", y.could(0, 0, 3, NONE), 2);
        is("a row without meanings is not whole", y.lasts(0, 1), NONE);
        is("could of it all the same", y.could(0, 1, 1, 0), 6);
        is("worn by 9", y.worn(0, 0, 9), 10);
        is("worn by 3", y.worn(0, 0, 3), 4);
        is("worn, twelve signs", y.worn(0, 2, 9), 1000000000000L);
        is("worn, twelve signs by 1", y.worn(0, 2, 1), 4096);
    }

    private void brief(SilentTable x, int value, int h, int... signs) {
        String call = "brief of " + value + " by " + h;
        is(call, x.brief(0, value, h, 0), signs.length == 0 ? NONE : signs.length);
        for (int i = 0; i < signs.length; i++) {
            is(call + " sign " + i, x.brief(0, value, h, 1 + i), signs[i]);
        }
        is(call + " behind", x.brief(0, value, h, 1 + signs.length), NONE);
        is(call + " what -1", x.brief(0, value, h, -1), NONE);
    }

    private void brief() {
        SilentTable x = table("0 " + SUMS);
        brief(x, 1, NONE, 0);
        brief(x, 2, NONE, 1);
        brief(x, 3, NONE, 0, 1);
        brief(x, 4, NONE, 1, 1);
        brief(x, 5, NONE);
        brief(x, 2, 0, 1);
        brief(x, 2, 1, 0, 0);
        brief(x, 3, 1);
        brief(x, 1, 9, 0);
        is("value 50", x.brief(0, 50, NONE, 0), NONE);
        is("value -1", x.brief(0, -1, NONE, 0), NONE);
        is("h 10", x.brief(0, 1, 10, 0), NONE);
        is("h -2", x.brief(0, 1, -2, 0), NONE);
        is("no list", x.brief(1, 1, NONE, 0), NONE);
        is("no list", x.brief(-1, 1, NONE, 0), NONE);
        SilentTable y = table("0 rule 0 1 0 plus;sign 9 1 3;sign 8 0 1;");
        brief(y, 1, NONE, 8);
        brief(y, 4, NONE, 9, 8);
        brief(y, 7, NONE, 9, 9, 8);
        brief(y, 10, NONE, 9, 9, 9, 8);
        brief(y, 13, NONE);
        // What was worked out for one text does not stand for the next one in its place.
        Due.put(y, "sign 4 0 13;");
        is("text", y.text(LIST, 0), 0);
        brief(y, 13, NONE, 4);
        brief(y, 1, NONE);
    }

    private void apart() {
        SilentTable x = table("0 " + SUMS, "0 rule 0 0 0 plus;sign 0 0 1;sign 1 0 2;sign 2 0 4;sign 2 0 3;sign 2 0 3;");
        is("apart by none", x.apart(0, 1, 0), NONE);
        is("apart of one", x.apart(0, 0, 0), NONE);
        Due.put(x, "rule 0 0 0 less;sign 0 0 1;sign 1 0 2;sign 2 0 4;sign 2 0 3;");
        is("text", x.text(LIST, 1), 1);
        is("apart size", x.apart(0, 1, 0), 2);
        is("apart sign 0", x.apart(0, 1, 1), 0);
        is("apart sign 1", x.apart(0, 1, 2), 0);
        is("apart behind", x.apart(0, 1, 3), NONE);
        is("apart what -1", x.apart(0, 1, -1), NONE);
        is("apart the other way round", x.apart(1, 0, 0), 2);
        is("apart no list", x.apart(0, 2, 0), NONE);
        is("apart no list", x.apart(-1, 0, 0), NONE);
        // Only rows of three tell these apart, and those of four are not looked at.
        SilentTable y = table("0 rule 0 1 2 head;rule 1 3 3 head;sign 7 3 5;sign 8 2 9;", "0 rule 0 1 2 head;rule 1 3 3 tail;sign 7 3 6;sign 8 2 9;");
        is("apart by three", y.apart(0, 1, 0), 3);
        is("its first", y.apart(0, 1, 1), 7);
        is("its second", y.apart(0, 1, 2), 7);
        is("its third", y.apart(0, 1, 3), 8);
        SilentTable z = table("0 rule 0 1 1 head;rule 1 3 3 head;sign 7 3 5;", "0 rule 0 1 1 head;rule 1 3 3 head;sign 7 3 6;");
        is("apart by four", z.apart(0, 1, 0), NONE);
        // Some meanings are not the same as none.
        Due.put(z, "");
        is("text", z.text(LIST, 0), 0);
        Due.put(z, "sign 4 0 0;");
        is("text", z.text(LIST, 1), 1);
        is("apart by one", z.apart(0, 1, 0), 1);
        is("its sign", z.apart(0, 1, 1), 4);
    }

    private void holeIdleDoubt() {
        SilentTable x = table("0 rule 0 1 0 tail;rule 0 1 2 plus;sign 0 1 1;sign 1 0 2;sign 2 2 3;sign 2 0 4;sign 2 2 3;sign 3 3 1;sign 0 0 6;",
            "1 0 0 2", "1 3 2", "1 2");
        is("hole 0", x.hole(0, 0, 0), 1);
        is("hole 2", x.hole(0, 0, 2), 1 | 2 | 4);
        is("hole of 3 2 at 0", x.hole(0, 1, 0), 1);
        is("hole of 3 2 at 1", x.hole(0, 1, 1), 0);
        is("hole at 3", x.hole(0, 0, 3), NONE);
        is("hole at -1", x.hole(0, 0, -1), NONE);
        is("hole no list", x.hole(1, 0, 0), NONE);
        is("hole no row", x.hole(0, 3, 0), NONE);
        // 0 0 2 means 4 (by tail) or 1 + 3; 0 2 the same; 0 0 means 6.
        is("means", x.means(0, 0, NONE), 1);
        is("idle", x.idle(0, 0), 1 | 2);
        // 3 2 means nothing, nor does 3; 2 does.
        is("idle without meanings", x.idle(0, 1), 2);
        is("idle of one sign", x.idle(0, 2), 0);
        is("idle no list", x.idle(1, 0), NONE);
        is("idle no row", x.idle(0, -1), NONE);
        SilentTable none = table("0 sign 3 3 1;", "1 3 3 3");
        is("no meanings are the same as none", none.idle(0, 0), 7);
        is("doubt 0", x.doubt(0, 0, 0), 1);
        is("doubt 2", x.doubt(0, 0, 2), 3);
        is("doubt of one sign", x.doubt(0, 2, 0), 1);
        is("doubt without trees", x.doubt(0, 1, 1), 0);
        is("doubt 3", x.doubt(0, 0, 3), NONE);
        is("doubt -1", x.doubt(0, 0, -1), NONE);
        is("doubt no list", x.doubt(-1, 0, 0), NONE);
        is("doubt no row", x.doubt(0, 3, 0), NONE);
    }

    private void mealAndDeed() {
        SilentTable x = table("2 " + MEAL_TEXT, "2 seats 2;seats 3;");
        is("seats", x.meal(0, 0), 4);
        is("deeds", x.meal(0, 1), 11);
        is("signs", x.meal(0, 2), 5);
        // Nobody saw 0's third sign; 0 looks at 3 when 3 says 7; 2 looks at 1 when 1 says 5.
        is("secret", x.meal(0, 3), 1);
        is("what 4", x.meal(0, 4), NONE);
        is("what -1", x.meal(0, -1), NONE);
        is("seats told twice", x.meal(1, 0), 3);
        is("no deeds", x.meal(1, 1), 0);
        is("no signs", x.meal(1, 2), 0);
        is("no meal", x.meal(2, 0), NONE);
        is("no meal", x.meal(-1, 0), NONE);
        int[][] want = {{0, 1, 0, 0}, {2, 0, 0, 2}, {0, 2, 1, 0}, {2, 0, 1, 2}, {2, 1, 5, 4}, {1, 1, NONE, 0},
            {2, 0, 2, 0}, {0, 0, 3, 0}, {2, 3, 7, 1}, {0, 0, 1, 0}, {0, 3, 0, 0}};
        for (int k = 0; k < want.length; k++) {
            for (int what = 0; what < 4; what++) {
                is("deed " + k + " " + what, x.deed(0, k, what), want[k][what]);
            }
        }
        is("deed 11", x.deed(0, 11, 0), -2);
        is("deed -1", x.deed(0, -1, 0), -2);
        is("deed what 4", x.deed(0, 0, 4), -2);
        is("deed what -1", x.deed(0, 0, -1), -2);
        is("deed no meal", x.deed(2, 0, 0), -2);
    }

    private void looks() {
        SilentTable x = table("2 " + MEAL_TEXT);
        int[][] want = {{NONE, NONE, NONE, NONE}, {NONE, 0, NONE, NONE}, {NONE, 0, NONE, NONE}, {NONE, 0, 1, NONE},
            {NONE, 0, 1, NONE}, {NONE, 0, 1, NONE}, {NONE, NONE, 1, NONE}, {NONE, NONE, 1, NONE}, {3, NONE, 1, NONE},
            {3, NONE, 1, NONE}, {1, NONE, 1, NONE}, {1, NONE, 1, 0}};
        for (int n = 0; n < want.length; n++) {
            for (int seat = 0; seat < 4; seat++) {
                is("looks " + n + " " + seat, x.looks(0, n, seat), want[n][seat]);
            }
        }
        is("looks 12", x.looks(0, 12, 0), -2);
        is("looks -1", x.looks(0, -1, 0), -2);
        is("looks seat 4", x.looks(0, 0, 4), -2);
        is("looks seat -1", x.looks(0, 0, -1), -2);
        is("looks no meal", x.looks(1, 0, 0), -2);
    }

    private void caught() {
        SilentTable x = table("2 " + MEAL_TEXT);
        is("said by 0", x.caught(0, NONE, 0, NONE), 3);
        is("its first", x.caught(0, NONE, 0, 0), 0);
        is("its last", x.caught(0, NONE, 0, 2), 2);
        is("behind", x.caught(0, NONE, 0, 3), -2);
        is("caught of 0 by 1", x.caught(0, 1, 0, NONE), 2);
        is("its second", x.caught(0, 1, 0, 1), 1);
        is("behind", x.caught(0, 1, 0, 2), -2);
        is("k -2", x.caught(0, 1, 0, -2), -2);
        is("caught of 0 by 2", x.caught(0, 2, 0, NONE), 0);
        is("caught of 3 by 0", x.caught(0, 0, 3, 0), 7);
        is("both are one", x.caught(0, 1, 1, NONE), -2);
        is("no seat", x.caught(0, 4, 1, NONE), -2);
        is("no seat", x.caught(0, 1, 4, NONE), -2);
        is("no seat", x.caught(0, -2, 1, NONE), -2);
        is("no seat", x.caught(0, NONE, -1, NONE), -2);
        is("no meal", x.caught(1, 0, 1, NONE), -2);
    }

    private void knowsAndSure() {
        SilentTable x = table("0 " + SUMS, "2 " + MEAL_TEXT, "2 look 1 0;look 2 0;look 3 0;says 0 0;away 3;says 0 1;away 2;");
        is("0 said 0 1 2", x.knows(0, 0, NONE, 0, NONE), 2);
        is("its second", x.knows(0, 0, NONE, 0, 1), 7);
        is("1 caught 0 1", x.knows(0, 0, 1, 0, NONE), 1);
        is("its meaning", x.knows(0, 0, 1, 0, 0), 3);
        is("behind", x.knows(0, 0, 1, 0, 1), -2);
        is("k -2", x.knows(0, 0, 1, 0, -2), -2);
        is("2 caught nothing", x.knows(0, 0, 2, 0, NONE), 0);
        is("a sign without readings", x.knows(0, 0, NONE, 3, NONE), 0);
        is("both are one", x.knows(0, 0, 2, 2, NONE), -2);
        is("no seat", x.knows(0, 0, 4, 2, NONE), -2);
        is("no seat", x.knows(0, 0, 2, 4, NONE), -2);
        is("no list", x.knows(1, 0, 1, 0, NONE), -2);
        is("no meal", x.knows(0, 2, 1, 0, NONE), -2);
        // 1 knows just one meaning, but what was said has two.
        is("sure of 0", x.sure(0, 0, 0), 0);
        // 1 and 2 saw both signs; 3 saw the first one alone.
        is("sure of 0 at the other meal", x.sure(0, 1, 0), 2 | 4);
        is("3 knows something else", x.knows(0, 1, 3, 0, 0), 1);
        is("nobody is sure of who says nothing", x.sure(0, 1, 1), 0);
        is("sure no seat", x.sure(0, 1, 4), NONE);
        is("sure no seat", x.sure(0, 1, -1), NONE);
        is("sure no list", x.sure(1, 1, 0), NONE);
        is("sure no meal", x.sure(0, 2, 0), NONE);
        SilentTable y = table("0 rule 0 0 0 head;sign 0 0 5;", "2 look 1 0;" + times("says 0 0;", 12), "2 " + "says 0 0;look 1 0;" + times("says 0 0;", 12));
        is("twelve signs", y.knows(0, 0, NONE, 0, NONE), 1);
        is("sure by twelve", y.sure(0, 0, 0), 2);
        is("thirteen signs", y.knows(0, 1, NONE, 0, NONE), 0);
        is("twelve of them caught", y.knows(0, 1, 1, 0, 0), 5);
        is("not sure of thirteen", y.sure(0, 1, 0), 0);
    }

    private void passedAndReaches() {
        SilentTable x = table("2 seats 6;look 1 0;look 2 1;away 1;look 3 2;look 4 3;look 1 5;look 0 4;", "2 look 1 0;",
            "0 sign 0 0 5;sign 1 0 5;sign 2 0 6;near 0 1;near 1 2;", "1 0", "1 3");
        is("passed 0 1", x.passed(0, 0, 1), 1);
        is("passed 0 2", x.passed(0, 0, 2), 2);
        is("passed 0 4", x.passed(0, 0, 4), 4);
        is("passed 5 4", x.passed(0, 5, 4), 4);
        is("passed 5 0", x.passed(0, 5, 0), 5);
        is("passed 4 1", x.passed(0, 4, 1), 2);
        is("passed 1 5", x.passed(0, 1, 5), NONE);
        is("both are one", x.passed(0, 1, 1), NONE);
        is("no seat", x.passed(0, 6, 1), NONE);
        is("no seat", x.passed(0, 1, 6), NONE);
        is("no seat", x.passed(0, -1, 1), NONE);
        is("seats of that meal", x.passed(1, 0, 4), NONE);
        is("no meal", x.passed(2, 0, 1), NONE);
        due.is("reaches by one hand", x.reaches(0, 0, 0, 0, 1), true);
        due.is("reaches by two", x.reaches(0, 0, 0, 0, 2), true);
        due.is("reaches by three", x.reaches(0, 0, 0, 0, 3), false);
        due.is("reaches without meanings", x.reaches(0, 1, 0, 0, 1), false);
        due.is("reaches itself", x.reaches(0, 0, 0, 0, 0), false);
        due.is("reaches nobody", x.reaches(0, 0, 0, 1, 5), false);
        due.is("reaches no list", x.reaches(1, 0, 0, 0, 1), false);
        due.is("reaches no row", x.reaches(0, 2, 0, 0, 1), false);
        due.is("reaches no meal", x.reaches(0, 0, 2, 0, 1), false);
        due.is("reaches no seat", x.reaches(0, 0, 0, 0, 6), false);
    }

    private void watch() {
        SilentTable x = table("2 says 2 1;says 1 1;says 3 0;says 2 2;says 3 3;says 0 1;", "2 seats 1;says 0 0;");
        is("watch of 0", x.watch(0, 0, false), 2);
        is("its signs", x.watch(0, 0, true), 2);
        is("watch of 2", x.watch(0, 2, false), 3);
        is("only one seat", x.watch(1, 0, false), NONE);
        is("only one seat", x.watch(1, 0, true), NONE);
        is("no seat", x.watch(0, 4, true), NONE);
        is("no seat", x.watch(0, -1, false), NONE);
        is("no meal", x.watch(2, 0, false), NONE);
        Due.put(x, "seats 3;");
        is("text", x.text(MEAL, 1), 1);
        is("watch of 0 without signs", x.watch(1, 0, false), 1);
        is("watch of 1 without signs", x.watch(1, 1, false), 0);
        is("no signs", x.watch(1, 1, true), 0);
    }

    private void law() {
        SilentTable x = table("3 never 1;most 2 3;order 4 5;pair 6 7;hidden 8;seen 9;", "3 ");
        is("laws", x.law(0, NONE, 0), 6);
        is("laws what 1", x.law(0, NONE, 1), -2);
        is("laws what 2", x.law(0, NONE, 2), -2);
        int[][] want = {{0, 1, NONE}, {1, 2, 3}, {2, 4, 5}, {3, 6, 7}, {4, 8, NONE}, {5, 9, NONE}};
        for (int k = 0; k < 6; k++) {
            for (int what = 0; what < 3; what++) {
                is("law", x.law(0, k, what), want[k][what]);
            }
        }
        is("law 6", x.law(0, 6, 0), -2);
        is("law -2", x.law(0, -2, 0), -2);
        is("law what 3", x.law(0, 0, 3), -2);
        is("law what -1", x.law(0, 0, -1), -2);
        is("no laws", x.law(1, NONE, 0), 0);
        is("no house", x.law(2, NONE, 0), -2);
        is("no house", x.law(-1, NONE, 0), -2);
    }

    private void breaksSinsMildest() {
        SilentTable x = table("2 " + MEAL_TEXT, "3 " + HOUSE_TEXT, "2 says 0 0;", "3 ");
        // Deed 3 breaks pair, 4 order, 6 most and seen, 8 hidden.
        is("breaks deed", x.breaks(0, 0, 0), 3);
        is("breaks law", x.breaks(0, 0, 1), 1);
        is("breaks seat", x.breaks(0, 0, 2), 0);
        is("breaks what 3", x.breaks(0, 0, 3), NONE);
        is("breaks what -1", x.breaks(0, 0, -1), NONE);
        is("breaks none", x.breaks(0, 1, 0), NONE);
        is("breaks no laws", x.breaks(1, 0, 0), NONE);
        is("breaks no house", x.breaks(2, 0, 0), NONE);
        is("breaks no meal", x.breaks(0, 2, 0), NONE);
        is("sins of all", x.sins(0, 0, NONE), 4);
        is("sins of 0", x.sins(0, 0, 0), 2);
        is("sins of 1", x.sins(0, 0, 1), 1);
        is("sins of 2", x.sins(0, 0, 2), 0);
        is("sins of 3", x.sins(0, 0, 3), 1);
        is("sins of 4", x.sins(0, 0, 4), NONE);
        is("sins of -2", x.sins(0, 0, -2), NONE);
        is("sins no house", x.sins(2, 0, 0), NONE);
        is("sins no meal", x.sins(0, 2, 0), NONE);
        is("mildest", x.mildest(0, 0), 0);
        is("mildest where none is broken", x.mildest(0, 1), 0);
        is("mildest without laws", x.mildest(1, 0), NONE);
        is("mildest no house", x.mildest(2, 0), NONE);
        is("mildest no meal", x.mildest(0, 2), NONE);
        Due.put(x, "most 2 0;seen 2;never 9;order 9 5;pair 0 1;");
        is("text", x.text(HOUSE, 0), 0);
        is("of several laws the first", x.breaks(0, 0, 1), 4);
        is("mildest is not the first", x.mildest(0, 0), 3);
    }

    private void breaksAt(String house, String meal, int... deeds) {
        SilentTable x = table("2 " + meal, "3 " + house);
        String call = house + " at " + meal;
        is(call, x.breaks(0, 0, 0), deeds.length == 0 ? NONE : deeds[0]);
        is(call + " sins", x.sins(0, 0, NONE), deeds.length);
    }

    private void eachLaw() {
        breaksAt("never 3;", "says 0 2;says 1 3;says 0 3;", 1, 2);
        breaksAt("never 3;", "look 0 3;");
        breaksAt("most 3 1;", "says 0 3;says 1 2;says 1 3;says 2 3;", 2, 3);
        breaksAt("most 3 0;", "says 0 3;", 0);
        breaksAt("order 1 2;", "says 0 2;says 1 1;says 0 2;", 0);
        breaksAt("order 1 2;", "says 3 1;says 0 2;");
        breaksAt("order 1 1;", "says 3 1;says 0 1;", 0);
        breaksAt("pair 1 2;", "says 0 1;says 1 3;look 0 1;says 0 2;", 3);
        breaksAt("pair 1 2;", "says 0 1;says 1 2;says 0 3;says 0 2;");
        breaksAt("pair 1 1;", "says 0 1;says 0 1;says 0 1;", 1, 2);
        breaksAt("hidden 4;", "look 0 1;says 1 4;says 1 3;says 2 4;look 1 2;says 2 4;says 0 4;away 0;says 1 4;", 1);
        breaksAt("seen 4;", "look 0 1;says 1 4;says 0 4;says 0 3;away 0;says 1 4;", 2, 5);
        SilentTable x = table("2 says 1 1;", "3 never 2;never 1;seen 1;");
        is("the first law broken", x.breaks(0, 0, 1), 1);
        is("a deed that breaks two is one", x.sins(0, 0, NONE), 1);
        is("without either it is broken still", x.mildest(0, 0), 0);
    }

    private void drawn() {
        SilentTable x = table("0 near 0 3;near 0 7;near 3 0;", "1 0 3 5");
        // x = 12345 first: 0 by 16 bits, remainder 0; then what the document's arithmetic gives.
        int seed = 0;
        int[] now = {0, 3, 5};
        int[][] near = {{3, 7}, {}, {}, {0}, {}, {}, {}, {}, {}, {}};
        for (int h = 0; h <= 9; h++) {
            for (int i = 0; i < 3; i++) {
                is("drawn by " + h, x.drawn(0, 0, h, 0, i), now[i]);
            }
            for (int i = 0; i < 3; i++) {
                seed = seed * 1103515245 + 12345;
                int number = (seed >>> 16) % (1 + near[now[i]].length);
                now[i] = number == 0 ? now[i] : near[now[i]][number - 1];
            }
        }
        // -1 becomes -1103502900: 48697 without its sign, remainder 1 by 3, the first one it is near to.
        is("seed -1", x.drawn(0, 0, 1, -1, 0), 3);
        // 1 becomes 1103527590: 16838, remainder 2 by 3; then -1770082073: 38526, remainder 0 by 2.
        is("seed 1", x.drawn(0, 0, 1, 1, 0), 7);
        is("seed 1, the next sign", x.drawn(0, 0, 1, 1, 1), 3);
        is("drawn i 3", x.drawn(0, 0, 1, 1, 3), NONE);
        is("drawn i -1", x.drawn(0, 0, 1, 1, -1), NONE);
        is("drawn h 10", x.drawn(0, 0, 10, 1, 0), NONE);
        is("drawn h -1", x.drawn(0, 0, -1, 1, 0), NONE);
        is("drawn no list", x.drawn(1, 0, 1, 1, 0), NONE);
        is("drawn no row", x.drawn(0, 1, 1, 1, 0), NONE);
        is("the row stays", x.row(0, 0), 0);
    }

    private void all() {
        SilentTable x = table("0 " + SUMS);
        // Three signs have readings: 3 of 10, 9 of 100, 27 of 1000, 81 of 10000.
        is("all 1 mean", x.all(0, 1, 0), 3);
        is("all 1 one tree", x.all(0, 1, 1), 2);
        is("all 1 most", x.all(0, 1, 2), 2);
        is("all 2 mean", x.all(0, 2, 0), 9);
        is("all 2 one tree", x.all(0, 2, 1), 4);
        is("all 2 most", x.all(0, 2, 2), 4);
        is("all 3 mean", x.all(0, 3, 0), 27);
        is("all 3 one tree", x.all(0, 3, 1), 0);
        is("all 3 most", x.all(0, 3, 2), 16);
        is("all 4 mean", x.all(0, 4, 0), 81);
        is("all 4 most", x.all(0, 4, 2), 80);
        is("all 0", x.all(0, 0, 0), NONE);
        is("all 5", x.all(0, 5, 0), NONE);
        is("all what 3", x.all(0, 1, 3), NONE);
        is("all what -1", x.all(0, 1, -1), NONE);
        is("all no list", x.all(1, 1, 0), NONE);
        is("all no list", x.all(-1, 1, 0), NONE);
    }

    private void becomes() {
        StringBuilder chain = new StringBuilder("0 ");
        for (int s = 0; s < 9; s++) {
            chain.append("near ").append(s).append(" ").append(s + 1).append(";");
        }
        SilentTable x = table(chain.toString(), "1 0 5", "1 3 5", "1 9 5");
        is("becomes by 3", x.becomes(0, 0, 1), 3);
        is("becomes by 9", x.becomes(0, 0, 2), 9);
        is("becomes itself", x.becomes(0, 0, 0), 0);
        is("it can't", x.becomes(0, 1, 0), NONE);
        Due.put(x, "1 9");
        is("text", x.text(ROW, 2), 2);
        is("the slowest sign", x.becomes(0, 0, 2), 4);
        Due.put(x, "0");
        is("text", x.text(ROW, 2), 2);
        is("unlike length", x.becomes(0, 0, 2), NONE);
        is("no row", x.becomes(0, 0, 3), NONE);
        is("no row", x.becomes(0, -1, 0), NONE);
        is("no list", x.becomes(1, 0, 1), NONE);
    }

    private void asks() {
        SilentTable x = table("0 " + SUMS, "2 look 1 0;look 2 1;look 3 2;");
        is("asks by one hand", x.asks(0, 2, 0, 0, 1, 0), 1);
        is("its sign", x.asks(0, 2, 0, 0, 1, 1), 1);
        is("asks by two", x.asks(0, 2, 0, 0, 2, 0), 2);
        is("its signs", x.asks(0, 2, 0, 0, 2, 1), 0);
        is("its signs", x.asks(0, 2, 0, 0, 2, 2), 0);
        is("behind", x.asks(0, 2, 0, 0, 2, 3), NONE);
        is("what -1", x.asks(0, 2, 0, 0, 2, -1), NONE);
        is("by none", x.asks(0, 3, 0, 0, 2, 0), NONE);
        is("by the first hand alone", x.asks(0, 3, 0, 0, 1, 0), 2);
        is("it can't be passed", x.asks(0, 2, 0, 1, 0, 0), NONE);
        is("both are one", x.asks(0, 2, 0, 1, 1, 0), NONE);
        is("value 50", x.asks(0, 50, 0, 0, 1, 0), NONE);
        is("value -1", x.asks(0, -1, 0, 0, 1, 0), NONE);
        is("no list", x.asks(1, 2, 0, 0, 1, 0), NONE);
        is("no meal", x.asks(0, 2, 1, 0, 1, 0), NONE);
        is("no seat", x.asks(0, 2, 0, 0, 4, 0), NONE);
    }

    private void hears() {
        SilentTable x = table("2 " + MEAL_TEXT, "2 seats 2;look 0 1;says 0 3;says 1 2;says 1 3;says 0 2;");
        is("loudest, the least", x.hears(0, 0), 0);
        is("loudest of two", x.hears(1, 0), 2);
        // 0 looks at nobody by its three signs, 1 looks at 0 by its sign, 3 looks at nobody.
        is("blind", x.hears(0, 1), 4);
        is("blind", x.hears(1, 1), 2);
        is("eyes of 0", x.hears(0, 10), 1);
        is("eyes of 1", x.hears(0, 11), 2);
        is("eyes of 2", x.hears(0, 12), 1);
        is("eyes of 3", x.hears(0, 13), 0);
        is("eyes of 4", x.hears(0, 14), -2);
        is("eyes of 2 at two seats", x.hears(1, 12), -2);
        is("what 2", x.hears(0, 2), -2);
        is("what 9", x.hears(0, 9), -2);
        is("what -1", x.hears(0, -1), -2);
        is("no meal", x.hears(2, 0), -2);
        Due.put(x, "");
        is("text", x.text(MEAL, 0), 0);
        is("none is said", x.hears(0, 0), NONE);
        is("none is blind", x.hears(0, 1), 0);
    }

    private void count() {
        SilentTable x = table("0 ", "1 1", "1 2", "2 ", "3 ", "1 3");
        is("lists", x.count(0), 1);
        is("rows", x.count(1), 3);
        is("meals", x.count(2), 1);
        is("houses", x.count(3), 1);
        is("count 4", x.count(4), -2);
        is("count -1", x.count(-1), -2);
    }

    private void images() {
        SilentTable x = table("0 " + SUMS, "1 0 1 2", "2 " + MEAL_TEXT, "3 " + HOUSE_TEXT);
        due.is("image 3", x.image(3), false);
        due.is("image -1", x.image(-1), false);
        due.is("again 0 without", x.again(0), false);
        is("a fault", Due.tell(x, ROW, "1 x"), NONE);
        Due.put(x, "3 4");
        due.is("image 0", x.image(0), true);
        is("row", x.text(ROW, NONE), 1);
        Due.put(x, "sign 0 0 9;");
        is("list", x.text(LIST, 0), 0);
        is("meal", Due.tell(x, MEAL, ""), 1);
        is("house", Due.tell(x, HOUSE, ""), 1);
        is("means now", x.means(0, 0, NONE), 0);
        due.is("image 2", x.image(2), true);
        due.is("again 1 without", x.again(1), false);
        due.is("again 0", x.again(0), true);
        is("its fault", x.fault(0), 1);
        is("its place", x.fault(1), 2);
        is("its lists", x.list(0, 1), 4);
        is("its rows", x.count(ROW), 1);
        is("its meals", x.count(MEAL), 1);
        is("its houses", x.count(HOUSE), 1);
        is("its meanings", x.means(0, 0, NONE), 2);
        is("its trees", x.trees(0, 0, 0, 0, 2), 4);
        is("its tape", x.end(3), 3);
        is("its tape, as a row", x.text(ROW, NONE), 1);
        is("that row", x.row(1, 1), 4);
        due.is("again 2", x.again(2), true);
        is("the list of image 2", x.list(0, 1), 1);
        is("the fault of image 2", x.fault(0), 0);
        is("houses of image 2", x.count(HOUSE), 2);
        is("the tape of image 2", x.end(1), NONE);
        due.is("again 0 once more", x.again(0), true);
        is("the tape once more", x.end(3), 3);
        is("rows once more", x.count(ROW), 1);
        due.is("again 3", x.again(3), false);
        due.is("again -1", x.again(-1), false);
    }
}
