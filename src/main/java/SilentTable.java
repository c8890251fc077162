import java.util.Arrays;

/** Signs at a silent table: lists of signs, rows, meals and houses told as texts, and what they mean. */
public final class SilentTable {
    public static final int NONE = -1;

    private static final int MISSING = -2;

    private static final int LISTS = 0;
    private static final int ROWS = 1;
    private static final int MEALS = 2;
    private static final int HOUSES = 3;
    private static final int SORTS = 4;
    private static final int[] MOST_OF_SORT = {2, 3, 2, 2};
    private static final int IMAGES = 3;

    private static final int TAPE_MOST = 600;
    private static final int FEED_BYTES = 20;
    private static final int SIGNS = 10;
    private static final int KINDS = 6;
    private static final int VALUES = 50;
    private static final long ALL_VALUES = (1L << VALUES) - 1;
    private static final int HANDS_MOST = 9;
    private static final int ROW_MOST = 12;
    private static final int READING_MOST = 16;
    private static final int DEED_MOST = 50;
    private static final int SEAT_MOST = 6;
    private static final int SEATS_FIRST = 4;
    private static final int ABBOT = 0;
    private static final int BRIEF_MOST = 4;
    private static final int APART_MOST = 3;

    /** How many parts a ROW of twelve SIGNS has. */
    private static final int PARTS = 78;
    private static final long TOLD_MOST = 1000000000000L;
    /** The n-th TREE may be asked for by any long, so counts go as far as these; ENDLESS stands for all above. */
    private static final long COUNT_MOST = Long.MAX_VALUE;
    private static final long ENDLESS = -1L;

    private static final int HEAD = 0;
    private static final int TAIL = 1;
    private static final int PLUS = 2;
    private static final int LESS = 3;
    private static final String ACT_WORDS = "head tail plus less not";

    /** The first words of lines, numbered through all sorts. */
    private static final int RULE = 0;
    private static final int SIGN = 1;
    private static final int NEAR = 2;
    private static final int SEATS = 3;
    private static final int LOOK = 4;
    private static final int AWAY = 5;
    private static final int SAYS = 6;
    private static final int NEVER = 7;
    private static final String LIST_WORDS = "rule sign near";
    private static final String MEAL_WORDS = "seats look away says";
    private static final String HOUSE_WORDS = "never most order pair hidden seen";
    private static final int[] NUMBERS_OF_LINE = {3, 3, 2, 1, 2, 1, 2, 1, 2, 2, 2, 1, 1};
    private static final int LINE_NUMBERS = 3;
    /** The greatest that each of a line's numbers can be, three for each first word. */
    private static final int[] GREATEST = {
        5, 5, 5, 9, 5, 49, 9, 9, 0,
        6, 0, 0, 5, 5, 0, 5, 0, 0, 5, 9, 0,
        9, 0, 0, 9, 9, 0, 9, 9, 0, 9, 9, 0, 9, 0, 0, 9, 0, 0};
    /** How many lines of a group there may be; 0 where any number may. */
    private static final int[] MOST_OF_LINE = {10, 16, 0, 0, 50, 50, 50, 8, 8, 8, 8, 8, 8};

    private static final int FAULT_TEXT = 1;
    private static final int FAULT_NUMBER = 2;
    private static final int FAULT_MANY = 3;
    private static final int FAULT_LAST = 4;

    /** RULES, READINGS, DEEDS and LAWS are all kept as four numbers each. */
    private static final int EACH = 4;

    private static final int LOOKS_AT = 0;
    private static final int SAYS_SIGN = 2;

    private static final int LAW_NEVER = 0;
    private static final int LAW_MOST = 1;
    private static final int LAW_ORDER = 2;
    private static final int LAW_PAIR = 3;
    private static final int LAW_HIDDEN = 4;

    /** By how many SIGNS: how many ROWS of so many there are, and how many ROWS are shorter. */
    private static final int[] ROWS_OF = {1, 10, 100, 1000, 10000};
    private static final int[] ROWS_BELOW = {0, 0, 10, 110, 1110};
    private static final int ROWS_TO_THREE = 1110;
    private static final int ROWS_TO_FOUR = 11110;

    private final Told told = new Told();
    private final Told[] images = new Told[IMAGES];
    private final TextReader reader = new TextReader(told.tape);
    private final MeaningChart meaning = new MeaningChart();
    private final TreeChart counted = new TreeChart();
    /** These two are large and rarely wanted, so they are made when first asked for. */
    private WayChart byValue = null;
    private final ShortRows[] shorts = new ShortRows[MOST_OF_SORT[LISTS]];
    private final int[] sets = new int[ROW_MOST];
    private final int[] heard = new int[DEED_MOST];
    private final int[] broken = new int[DEED_MOST];

    public SilentTable() {
    }

    // The tape and the texts

    public int feed(int a, int b, int c, int d, int e) {
        if (told.size + FEED_BYTES > TAPE_MOST) {
            return NONE;
        }
        told.append(a);
        told.append(b);
        told.append(c);
        told.append(d);
        told.append(e);
        return told.size;
    }

    public int end(int n) {
        if (n < 0 || n > told.size) {
            return NONE;
        }
        told.size = n;
        return n;
    }

    public int text(int sort, int at) {
        int length = told.size;
        // The tape is taken by every call, also by one that reads no text of it.
        told.size = 0;
        told.fault = 0;
        told.place = NONE;
        if (sort < 0 || sort >= SORTS) {
            return MISSING;
        }
        int there = told.counts[sort];
        boolean further = at == NONE;
        if (further ? there >= MOST_OF_SORT[sort] : at < 0 || at >= there) {
            return MISSING;
        }
        int number = further ? there : at;
        reader.readTape(length, sort);
        told.fault = reader.fault;
        told.place = reader.place;
        if (told.fault != 0) {
            return NONE;
        }
        keepText(sort, number);
        if (further) {
            told.counts[sort]++;
        }
        return number;
    }

    private void keepText(int sort, int number) {
        switch (sort) {
            case LISTS:
                told.lists[number] = new SignList(reader);
                break;
            case ROWS:
                told.rows[number] = new SignRow(reader);
                break;
            case MEALS:
                told.meals[number] = new Meal(reader);
                break;
            default:
                told.houses[number] = new House(reader);
                break;
        }
    }

    public int fault(int what) {
        if (what == 0) {
            return told.fault;
        }
        return what == 1 ? told.place : NONE;
    }

    public int count(int sort) {
        return sort < 0 || sort >= SORTS ? MISSING : told.counts[sort];
    }

    public boolean image(int k) {
        if (k < 0 || k >= IMAGES) {
            return false;
        }
        if (images[k] == null) {
            images[k] = new Told();
        }
        images[k].takeFrom(told);
        return true;
    }

    public boolean again(int k) {
        if (k < 0 || k >= IMAGES || images[k] == null) {
            return false;
        }
        told.takeFrom(images[k]);
        return true;
    }

    private SignList listAt(int list) {
        return list < 0 || list >= told.counts[LISTS] ? null : told.lists[list];
    }

    private SignRow rowAt(int row) {
        return row < 0 || row >= told.counts[ROWS] ? null : told.rows[row];
    }

    private Meal mealAt(int meal) {
        return meal < 0 || meal >= told.counts[MEALS] ? null : told.meals[meal];
    }

    private House houseAt(int house) {
        return house < 0 || house >= told.counts[HOUSES] ? null : told.houses[house];
    }

    // What a list and a row tell

    public int list(int list, int what) {
        SignList signs = listAt(list);
        if (signs == null) {
            return NONE;
        }
        if (what == 0) {
            return signs.ruleCount;
        }
        if (what == 1) {
            return signs.readingCount;
        }
        return what >= 10 && what < 10 + SIGNS ? signs.near[what - 10] : NONE;
    }

    public int rule(int list, int k, int what) {
        SignList signs = listAt(list);
        if (signs == null || k < 0 || k >= signs.ruleCount || what < 0 || what > 3) {
            return NONE;
        }
        return signs.rules[k * EACH + what];
    }

    public int reading(int list, int k, int what) {
        SignList signs = listAt(list);
        if (signs == null || k < 0 || k >= signs.readingCount || what < 0 || what > 2) {
            return NONE;
        }
        return signs.readings[k * EACH + what];
    }

    public int row(int row, int k) {
        SignRow signs = rowAt(row);
        if (signs == null) {
            return MISSING;
        }
        if (k == NONE) {
            return signs.size;
        }
        return signs.has(k) ? signs.signs[k] : MISSING;
    }

    // Trees

    public long trees(int list, int row, int kind, int from, int to) {
        SignList signs = listAt(list);
        SignRow parts = rowAt(row);
        if (signs == null || parts == null || kind < 0 || kind >= KINDS || !parts.hasPart(from, to)) {
            return NONE;
        }
        counted.countFor(signs, parts);
        return toldCount(counted.cells[part(from, to) * KINDS + kind]);
    }

    public int can(int list, int row, int from, int to) {
        SignList signs = listAt(list);
        SignRow parts = rowAt(row);
        if (signs == null || parts == null || !parts.hasPart(from, to)) {
            return NONE;
        }
        counted.countFor(signs, parts);
        int bits = 0;
        for (int kind = 0; kind < KINDS; kind++) {
            if (counted.cells[part(from, to) * KINDS + kind] != 0) {
                bits |= 1 << kind;
            }
        }
        return bits;
    }

    public long ways(int list, int row, int value) {
        SignList signs = listAt(list);
        SignRow parts = rowAt(row);
        if (signs == null || parts == null || !isValue(value)) {
            return NONE;
        }
        counted.countFor(signs, parts);
        if (byValue == null) {
            byValue = new WayChart();
        }
        byValue.countFor(counted);
        return toldCount(byValue.cells[part(0, parts.size - 1) * KINDS * VALUES + value]);
    }

    public int tree(int list, int row, long n, int what) {
        SignList signs = listAt(list);
        SignRow parts = rowAt(row);
        if (signs == null || parts == null || n < 0) {
            return MISSING;
        }
        if (what < 0 || what > 2 && !parts.has(what - 10)) {
            return MISSING;
        }
        counted.countFor(signs, parts);
        long there = counted.cells[part(0, parts.size - 1) * KINDS];
        if (n >= there && there != ENDLESS) {
            return MISSING;
        }
        int value = counted.pickWhole(n);
        switch (what) {
            case 0:
                return value;
            case 1:
                return counted.topRule;
            case 2:
                return counted.topCut;
            default:
                return counted.picked[what - 10];
        }
    }

    public int doubt(int list, int row, int place) {
        SignList signs = listAt(list);
        SignRow parts = rowAt(row);
        if (signs == null || parts == null || !parts.has(place)) {
            return NONE;
        }
        counted.countFor(signs, parts);
        return counted.usedReadings(place);
    }

    // Meanings

    public int means(int list, int row, int k) {
        SignList signs = listAt(list);
        SignRow parts = rowAt(row);
        if (signs == null || parts == null) {
            return MISSING;
        }
        return countOrOne(wornMeanings(signs, parts, 0), k);
    }

    public int could(int list, int row, int h, int k) {
        SignList signs = listAt(list);
        SignRow parts = rowAt(row);
        if (signs == null || parts == null || !areHands(h)) {
            return MISSING;
        }
        return countOrOne(wornMeanings(signs, parts, h), k);
    }

    public int like(int list, int row, int other) {
        SignList signs = listAt(list);
        SignRow one = rowAt(row);
        SignRow two = rowAt(other);
        if (signs == null || one == null || two == null) {
            return NONE;
        }
        return Long.bitCount(wornMeanings(signs, one, 0) & wornMeanings(signs, two, 0));
    }

    public int hole(int list, int row, int place) {
        SignList signs = listAt(list);
        SignRow parts = rowAt(row);
        if (signs == null || parts == null || !parts.has(place)) {
            return NONE;
        }
        setWorn(signs, parts, 0);
        int bits = 0;
        for (int sign = 0; sign < SIGNS; sign++) {
            sets[place] = 1 << sign;
            if (meaning.meaningsOf(signs, sets, parts.size) != 0) {
                bits |= 1 << sign;
            }
        }
        return bits;
    }

    public int idle(int list, int row) {
        SignList signs = listAt(list);
        SignRow parts = rowAt(row);
        if (signs == null || parts == null) {
            return NONE;
        }
        if (parts.size < 2) {
            return 0;
        }
        long whole = wornMeanings(signs, parts, 0);
        int bits = 0;
        for (int place = 0; place < parts.size; place++) {
            if (meaningsWithout(signs, parts, place) == whole) {
                bits |= 1 << place;
            }
        }
        return bits;
    }

    private long meaningsWithout(SignList list, SignRow row, int place) {
        for (int i = 0; i < row.size - 1; i++) {
            sets[i] = 1 << row.signs[i < place ? i : i + 1];
        }
        return meaning.meaningsOf(list, sets, row.size - 1);
    }

    private void setWorn(SignList list, SignRow row, int hands) {
        for (int i = 0; i < row.size; i++) {
            sets[i] = list.wornTo[hands * SIGNS + row.signs[i]];
        }
    }

    /** COULD by so many hands; by none the MEANINGS themselves. */
    private long wornMeanings(SignList list, SignRow row, int hands) {
        setWorn(list, row, hands);
        return meaning.meaningsOf(list, sets, row.size);
    }

    // Signs that are worn

    public long worn(int list, int row, int h) {
        SignList signs = listAt(list);
        SignRow parts = rowAt(row);
        if (signs == null || parts == null || !areHands(h)) {
            return NONE;
        }
        long rows = 1;
        for (int i = 0; i < parts.size; i++) {
            rows *= Integer.bitCount(signs.wornTo[h * SIGNS + parts.signs[i]]);
        }
        return rows;
    }

    public int lasts(int list, int row) {
        SignList signs = listAt(list);
        SignRow parts = rowAt(row);
        if (signs == null || parts == null) {
            return NONE;
        }
        long own = wornMeanings(signs, parts, 0);
        if (own == 0) {
            return NONE;
        }
        for (int hands = 1; hands <= signs.restsAt; hands++) {
            if (wornMeanings(signs, parts, hands) != own) {
                return hands - 1;
            }
        }
        return HANDS_MOST;
    }

    public int becomes(int list, int row, int other) {
        SignList signs = listAt(list);
        SignRow one = rowAt(row);
        SignRow two = rowAt(other);
        if (signs == null || one == null || two == null || one.size != two.size) {
            return NONE;
        }
        int most = 0;
        for (int i = 0; i < one.size; i++) {
            int hands = signs.handsTo(one.signs[i], two.signs[i]);
            if (hands == NONE) {
                return NONE;
            }
            most = Math.max(most, hands);
        }
        return most;
    }

    public int drawn(int list, int row, int h, int seed, int i) {
        SignList signs = listAt(list);
        SignRow parts = rowAt(row);
        if (signs == null || parts == null || !areHands(h) || !parts.has(i)) {
            return NONE;
        }
        int x = seed;
        int[] now = parts.signs.clone();
        for (int hand = 0; hand < h; hand++) {
            for (int k = 0; k < parts.size; k++) {
                x = x * 1103515245 + 12345;
                int near = signs.near[now[k]];
                int number = (x >>> 16) % (1 + Integer.bitCount(near));
                if (number > 0) {
                    now[k] = countOrOne(near, number - 1);
                }
            }
        }
        return now[i];
    }

    // Short rows

    public int brief(int list, int value, int h, int what) {
        if (listAt(list) == null || !isValue(value) || h != NONE && !areHands(h)) {
            return NONE;
        }
        return tellShort(shortRows(list).briefest(value, h, meaning, sets), what);
    }

    public int apart(int one, int two, int what) {
        if (listAt(one) == null || listAt(two) == null) {
            return NONE;
        }
        return tellShort(shortRows(one).firstUnlike(shortRows(two)), what);
    }

    public long all(int list, int n, int what) {
        if (listAt(list) == null || n < 1 || n > BRIEF_MOST || what < 0 || what > 2) {
            return NONE;
        }
        ShortRows rows = shortRows(list);
        rows.fillTo(n);
        return rows.totals[n * 3 + what];
    }

    private ShortRows shortRows(int list) {
        if (shorts[list] == null) {
            shorts[list] = new ShortRows();
        }
        shorts[list].serve(told.lists[list]);
        return shorts[list];
    }

    /** How many SIGNS a short ROW has (what 0), or one of them (from 1 on). */
    private static int tellShort(int place, int what) {
        if (place == NONE || what < 0) {
            return NONE;
        }
        int size = shortSize(place);
        if (what == 0) {
            return size;
        }
        return what <= size ? shortSign(place, size, what - 1) : NONE;
    }

    private static int shortSize(int place) {
        int size = 1;
        while (size < BRIEF_MOST && place >= ROWS_BELOW[size + 1]) {
            size++;
        }
        return size;
    }

    private static int shortSign(int place, int size, int i) {
        return (place - ROWS_BELOW[size]) / ROWS_OF[size - 1 - i] % SIGNS;
    }

    // Meals

    public int meal(int meal, int what) {
        Meal table = mealAt(meal);
        if (table == null) {
            return NONE;
        }
        switch (what) {
            case 0:
                return table.seats;
            case 1:
                return table.deedCount;
            case 2:
                return table.signCount(false);
            case 3:
                return table.signCount(true);
            default:
                return NONE;
        }
    }

    public int deed(int meal, int k, int what) {
        Meal table = mealAt(meal);
        if (table == null || k < 0 || k >= table.deedCount || what < 0 || what > 3) {
            return MISSING;
        }
        return what == 3 ? table.saw[k] : table.deeds[k * EACH + what];
    }

    public int looks(int meal, int n, int seat) {
        Meal table = mealAt(meal);
        if (table == null || n < 0 || n > table.deedCount || !table.hasSeat(seat)) {
            return MISSING;
        }
        return table.gaze[n * table.seats + seat];
    }

    public int caught(int meal, int by, int seat, int k) {
        Meal table = mealAt(meal);
        if (table == null || !table.canHear(by, seat)) {
            return MISSING;
        }
        int size = table.hear(by, seat, heard);
        if (k == NONE) {
            return size;
        }
        return k < 0 || k >= size ? MISSING : heard[k];
    }

    public int knows(int list, int meal, int by, int seat, int k) {
        SignList signs = listAt(list);
        Meal table = mealAt(meal);
        if (signs == null || table == null || !table.canHear(by, seat)) {
            return MISSING;
        }
        return countOrOne(heardMeanings(signs, table, by, seat), k);
    }

    public int sure(int list, int meal, int seat) {
        SignList signs = listAt(list);
        Meal table = mealAt(meal);
        if (signs == null || table == null || !table.hasSeat(seat)) {
            return NONE;
        }
        long said = heardMeanings(signs, table, NONE, seat);
        if (Long.bitCount(said) != 1) {
            return 0;
        }
        int bits = 0;
        for (int by = 0; by < table.seats; by++) {
            if (by != seat && heardMeanings(signs, table, by, seat) == said) {
                bits |= 1 << by;
            }
        }
        return bits;
    }

    private long heardMeanings(SignList list, Meal meal, int by, int seat) {
        int size = meal.hear(by, seat, heard);
        if (size > ROW_MOST) {
            return 0;
        }
        for (int i = 0; i < size; i++) {
            sets[i] = 1 << heard[i];
        }
        return meaning.meaningsOf(list, sets, size);
    }

    public int passed(int meal, int from, int to) {
        return handsOver(meal, from, to);
    }

    private int handsOver(int meal, int from, int to) {
        Meal table = mealAt(meal);
        if (table == null || from == to || !table.hasSeat(from) || !table.hasSeat(to)) {
            return NONE;
        }
        return table.fewestHands(from, to);
    }

    public boolean reaches(int list, int row, int meal, int from, int to) {
        SignList signs = listAt(list);
        SignRow parts = rowAt(row);
        int hands = handsOver(meal, from, to);
        if (signs == null || parts == null || hands == NONE) {
            return false;
        }
        long own = wornMeanings(signs, parts, 0);
        return own != 0 && wornMeanings(signs, parts, hands - 1) == own;
    }

    public int asks(int list, int value, int meal, int from, int to, int what) {
        int hands = handsOver(meal, from, to);
        if (listAt(list) == null || !isValue(value) || hands == NONE) {
            return NONE;
        }
        return tellShort(shortRows(list).briefest(value, hands - 1, meaning, sets), what);
    }

    public int watch(int meal, int seat, boolean signs) {
        Meal table = mealAt(meal);
        if (table == null || !table.hasSeat(seat) || table.seats < 2) {
            return NONE;
        }
        int best = NONE;
        int most = NONE;
        for (int other = 0; other < table.seats; other++) {
            int size = other == seat ? NONE : table.hear(NONE, other, heard);
            if (size > most) {
                best = other;
                most = size;
            }
        }
        return signs ? most : best;
    }

    public int hears(int meal, int what) {
        Meal table = mealAt(meal);
        if (table == null) {
            return MISSING;
        }
        if (what == 0) {
            return table.loudest();
        }
        if (what == 1) {
            return table.blindSigns();
        }
        return what >= 10 && table.hasSeat(what - 10) ? table.eyesOf(what - 10) : MISSING;
    }

    // Houses

    public int law(int house, int k, int what) {
        House laws = houseAt(house);
        if (laws == null || what < 0 || what > 2) {
            return MISSING;
        }
        if (k == NONE) {
            return what == 0 ? laws.lawCount : MISSING;
        }
        return k < 0 || k >= laws.lawCount ? MISSING : laws.laws[k * EACH + what];
    }

    public int breaks(int house, int meal, int what) {
        House laws = houseAt(house);
        Meal table = mealAt(meal);
        if (laws == null || table == null || what < 0 || what > 2) {
            return NONE;
        }
        laws.judge(table, broken);
        for (int k = 0; k < table.deedCount; k++) {
            if (broken[k] != 0) {
                return what == 0 ? k : what == 1 ? countOrOne(broken[k], 0) : table.whoDoes(k);
            }
        }
        return NONE;
    }

    public int sins(int house, int meal, int seat) {
        House laws = houseAt(house);
        Meal table = mealAt(meal);
        if (laws == null || table == null || seat != NONE && !table.hasSeat(seat)) {
            return NONE;
        }
        laws.judge(table, broken);
        int deeds = 0;
        for (int k = 0; k < table.deedCount; k++) {
            if (broken[k] != 0 && (seat == NONE || table.whoDoes(k) == seat)) {
                deeds++;
            }
        }
        return deeds;
    }

    public int mildest(int house, int meal) {
        House laws = houseAt(house);
        Meal table = mealAt(meal);
        if (laws == null || table == null) {
            return NONE;
        }
        laws.judge(table, broken);
        int best = NONE;
        int fewest = DEED_MOST + 1;
        for (int k = 0; k < laws.lawCount; k++) {
            int deeds = deedsBreaking(~(1 << k), table.deedCount);
            if (deeds < fewest) {
                best = k;
                fewest = deeds;
            }
        }
        return best;
    }

    private int deedsBreaking(int lawBits, int deedCount) {
        int deeds = 0;
        for (int k = 0; k < deedCount; k++) {
            if ((broken[k] & lawBits) != 0) {
                deeds++;
            }
        }
        return deeds;
    }

    // Small things that all need

    private static boolean areHands(int h) {
        return h >= 0 && h <= HANDS_MOST;
    }

    private static boolean isValue(int value) {
        return value >= 0 && value < VALUES;
    }

    private static long toldCount(long count) {
        return count == ENDLESS ? TOLD_MOST : Math.min(count, TOLD_MOST);
    }

    /** How many bits there are (k NONE), or which is the k-th from the lowest. */
    private static int countOrOne(long bits, int k) {
        int there = Long.bitCount(bits);
        if (k == NONE) {
            return there;
        }
        if (k < 0 || k >= there) {
            return MISSING;
        }
        int passed = 0;
        for (int i = 0; i < VALUES; i++) {
            if ((bits >>> i & 1) != 0) {
                if (passed == k) {
                    return i;
                }
                passed++;
            }
        }
        return MISSING;
    }

    private static int part(int from, int to) {
        return to * (to + 1) / 2 + from;
    }

    private static int valueOf(int act, int u, int v) {
        switch (act) {
            case HEAD:
                return u;
            case TAIL:
                return v;
            case PLUS:
                return (u + v) % VALUES;
            case LESS:
                return u < v ? u - v + VALUES : u - v;
            default:
                return VALUES - 1 - v;
        }
    }

    private static long plus(long a, long b) {
        if (a == ENDLESS || b == ENDLESS || a > COUNT_MOST - b) {
            return ENDLESS;
        }
        return a + b;
    }

    private static long times(long a, long b) {
        if (a == 0 || b == 0) {
            return 0;
        }
        if (a == ENDLESS || b == ENDLESS || a > COUNT_MOST / b) {
            return ENDLESS;
        }
        return a * b;
    }

    /** The VALUES (bits) that an ACT makes of any of the first and any of the second ones; both have some. */
    private static long joined(int act, long first, long second) {
        switch (act) {
            case HEAD:
                return first;
            case TAIL:
                return second;
            case PLUS:
                return sums(first, second);
            case LESS:
                // u - v is u + 1 + (49 - v) on the ring of fifty.
                return sums(sums(first, 2L), mirrored(second));
            default:
                return mirrored(second);
        }
    }

    private static long sums(long first, long second) {
        long sums = 0;
        for (int u = 0; u < VALUES && first >>> u != 0; u++) {
            if ((first >>> u & 1) != 0) {
                sums |= second << u | second >>> (VALUES - u);
            }
        }
        return sums & ALL_VALUES;
    }

    private static long mirrored(long bits) {
        long mirror = 0;
        for (int v = 0; v < VALUES; v++) {
            mirror = mirror << 1 | bits >>> v & 1;
        }
        return mirror;
    }

    /** All that is told: texts are never changed once they are read, so an image shares them. */
    private static final class Told {
        final byte[] tape = new byte[TAPE_MOST];
        int size = 0;
        int fault = 0;
        int place = NONE;
        final SignList[] lists = new SignList[MOST_OF_SORT[LISTS]];
        final SignRow[] rows = new SignRow[MOST_OF_SORT[ROWS]];
        final Meal[] meals = new Meal[MOST_OF_SORT[MEALS]];
        final House[] houses = new House[MOST_OF_SORT[HOUSES]];
        final int[] counts = new int[SORTS];

        void append(int number) {
            for (int shift = 24; shift >= 0; shift -= 8) {
                if (size < TAPE_MOST) {
                    tape[size] = (byte) (number >>> shift);
                    size++;
                }
            }
        }

        void takeFrom(Told other) {
            System.arraycopy(other.tape, 0, tape, 0, TAPE_MOST);
            size = other.size;
            fault = other.fault;
            place = other.place;
            System.arraycopy(other.counts, 0, counts, 0, SORTS);
            takeTexts(other);
        }

        private void takeTexts(Told other) {
            for (int i = 0; i < lists.length; i++) {
                lists[i] = other.lists[i];
            }
            for (int i = 0; i < rows.length; i++) {
                rows[i] = other.rows[i];
            }
            for (int i = 0; i < meals.length; i++) {
                meals[i] = other.meals[i];
            }
            for (int i = 0; i < houses.length; i++) {
                houses[i] = other.houses[i];
            }
        }
    }

    /** Goes along a tape, token by token. */
    private static final class Tokens {
        static final int END = 0;
        static final int WORD = 1;
        static final int NUMBER = 2;
        static final int STOP = 3;
        static final int OTHER = 4;

        private final byte[] tape;
        private int size = 0;
        private int behind = 0;
        int start = 0;
        int sort = END;
        int number = 0;

        Tokens(byte[] bytes) {
            tape = bytes;
        }

        void startOver(int length) {
            size = Math.min(length, tape.length);
            start = 0;
            behind = 0;
            sort = END;
        }

        void step() {
            start = behind;
            while (start < size && isBlank(tape[start])) {
                start++;
            }
            behind = start;
            if (start >= size) {
                sort = END;
            } else if (isLetter(tape[start])) {
                while (behind < size && isLetter(tape[behind])) {
                    behind++;
                }
                sort = WORD;
            } else if (isDigit(tape[start])) {
                takeDigits();
            } else {
                sort = tape[start] == ';' ? STOP : OTHER;
                behind++;
            }
        }

        private void takeDigits() {
            number = 0;
            while (behind < size && isDigit(tape[behind])) {
                // Only the first two digits count: a longer row is no NUMBER.
                if (behind - start < 2) {
                    number = number * 10 + tape[behind] - '0';
                }
                behind++;
            }
            sort = behind - start <= 2 ? NUMBER : OTHER;
        }

        /** Which of some words, parted by blanks, this token is; NONE if it is none of them. */
        int wordAmong(String words) {
            if (sort != WORD) {
                return NONE;
            }
            int word = 0;
            int first = 0;
            for (int i = 0; i <= words.length(); i++) {
                if (i == words.length() || words.charAt(i) == ' ') {
                    if (spells(words, first, i)) {
                        return word;
                    }
                    word++;
                    first = i + 1;
                }
            }
            return NONE;
        }

        private boolean spells(String words, int first, int last) {
            if (last - first != behind - start) {
                return false;
            }
            for (int i = first; i < last; i++) {
                if (words.charAt(i) != tape[start + i - first]) {
                    return false;
                }
            }
            return true;
        }

        private static boolean isBlank(byte b) {
            return b == 10 || b == 32;
        }

        private static boolean isLetter(byte b) {
            return b >= 'a' && b <= 'z';
        }

        private static boolean isDigit(byte b) {
            return b >= '0' && b <= '9';
        }
    }

    /** Reads a text of any sort: its FAULT, and, if there is none, what it tells. */
    private static final class TextReader {
        private final Tokens tokens;
        int fault = 0;
        int place = NONE;
        /** RULES, DEEDS, LAWS (four numbers each) or the SIGNS of a ROW: a text tells one sort of these alone. */
        final int[] items = new int[DEED_MOST * EACH];
        int itemCount = 0;
        final int[] readings = new int[READING_MOST * EACH];
        int readingCount = 0;
        final int[] near = new int[SIGNS];
        int seats = SEATS_FIRST;
        int highestSeat = NONE;
        private final int[] line = new int[LINE_NUMBERS + 1];

        TextReader(byte[] tape) {
            tokens = new Tokens(tape);
        }

        void readTape(int size, int sort) {
            forget();
            tokens.startOver(size);
            boolean goesOn = sort == ROWS ? readSigns() : readLines(sort);
            if (!goesOn) {
                fault = FAULT_TEXT;
                place = tokens.start;
            } else if (sort == ROWS && itemCount == 0 || sort == MEALS && highestSeat >= seats) {
                noteFault(FAULT_LAST, size);
            }
        }

        private void forget() {
            fault = 0;
            place = NONE;
            itemCount = 0;
            readingCount = 0;
            Arrays.fill(near, 0);
            seats = SEATS_FIRST;
            highestSeat = NONE;
        }

        /** Tokens come in order, so the first one noted is the first by place. */
        private void noteFault(int what, int where) {
            if (fault == 0) {
                fault = what;
                place = where;
            }
        }

        private boolean readSigns() {
            tokens.step();
            for (int i = 0; i < TAPE_MOST && tokens.sort == Tokens.NUMBER; i++) {
                if (tokens.number >= SIGNS) {
                    noteFault(FAULT_NUMBER, tokens.start);
                }
                if (itemCount >= ROW_MOST) {
                    noteFault(FAULT_MANY, tokens.start);
                } else {
                    items[itemCount] = tokens.number;
                    itemCount++;
                }
                tokens.step();
            }
            return tokens.sort == Tokens.END;
        }

        private boolean readLines(int sort) {
            tokens.step();
            for (int i = 0; i < TAPE_MOST && tokens.sort != Tokens.END; i++) {
                if (!readLine(firstWord(sort))) {
                    return false;
                }
                tokens.step();
            }
            return true;
        }

        private int firstWord(int sort) {
            int word;
            switch (sort) {
                case LISTS:
                    word = tokens.wordAmong(LIST_WORDS);
                    return word == NONE ? NONE : RULE + word;
                case MEALS:
                    word = tokens.wordAmong(MEAL_WORDS);
                    return word == NONE ? NONE : SEATS + word;
                default:
                    word = tokens.wordAmong(HOUSE_WORDS);
                    return word == NONE ? NONE : NEVER + word;
            }
        }

        private boolean readLine(int word) {
            if (word == NONE) {
                return false;
            }
            noteMany(word);
            Arrays.fill(line, NONE);
            for (int i = 0; i < NUMBERS_OF_LINE[word]; i++) {
                tokens.step();
                if (tokens.sort != Tokens.NUMBER) {
                    return false;
                }
                line[i] = tokens.number;
                noteNumber(word, i);
            }
            if (word == RULE) {
                tokens.step();
                line[LINE_NUMBERS] = tokens.wordAmong(ACT_WORDS);
                if (line[LINE_NUMBERS] == NONE) {
                    return false;
                }
            }
            tokens.step();
            if (tokens.sort != Tokens.STOP) {
                return false;
            }
            keepLine(word);
            return true;
        }

        private void noteMany(int word) {
            int most = MOST_OF_LINE[word];
            int there = word == SIGN ? readingCount : itemCount;
            if (most > 0 && there >= most) {
                noteFault(FAULT_MANY, tokens.start);
            }
        }

        private void noteNumber(int word, int i) {
            boolean tooHigh = line[i] > GREATEST[word * LINE_NUMBERS + i];
            boolean tooLow = word == SEATS && line[i] < 1;
            boolean itself = (word == NEAR || word == LOOK) && i == 1 && line[1] == line[0];
            if (tooHigh || tooLow || itself) {
                noteFault(FAULT_NUMBER, tokens.start);
            }
        }

        /** With a FAULT nothing is kept of the text, so its lines need not be stored any more. */
        private void keepLine(int word) {
            if (fault != 0) {
                return;
            }
            switch (word) {
                case RULE:
                    itemCount = store(items, itemCount, 0);
                    break;
                case SIGN:
                    readingCount = store(readings, readingCount, 0);
                    break;
                case NEAR:
                    near[line[0]] |= 1 << line[1];
                    break;
                case SEATS:
                    seats = line[0];
                    break;
                default:
                    keepDeedOrLaw(word);
                    break;
            }
        }

        private void keepDeedOrLaw(int word) {
            if (word < NEVER) {
                highestSeat = Math.max(highestSeat, line[0]);
                if (word == LOOK) {
                    highestSeat = Math.max(highestSeat, line[1]);
                }
            }
            items[itemCount * EACH] = word < NEVER ? word - LOOK : word - NEVER;
            itemCount = store(items, itemCount, 1);
        }

        /** Puts the line's numbers behind the first ones of an item, and answers how many items there are. */
        private int store(int[] into, int there, int behind) {
            System.arraycopy(line, 0, into, there * EACH + behind, EACH - behind);
            return there + 1;
        }
    }

    /** A LIST. */
    private static final class SignList {
        final int ruleCount;
        /** KIND, first, second one, ACT. */
        final int[] rules;
        final int readingCount;
        /** SIGN, KIND, VALUE. */
        final int[] readings;
        final int[] near;
        /** By SIGN and KIND: the VALUES of such READINGS (bits). */
        final long[] values = new long[SIGNS * KINDS];
        /** By hands and SIGN: the SIGNS (bits) that it may be by then. */
        final int[] wornTo = new int[(HANDS_MOST + 1) * SIGNS];
        /** By more hands than these nothing more can come. */
        final int restsAt;

        SignList(TextReader reader) {
            ruleCount = reader.itemCount;
            rules = Arrays.copyOf(reader.items, ruleCount * EACH);
            readingCount = reader.readingCount;
            readings = Arrays.copyOf(reader.readings, readingCount * EACH);
            near = reader.near.clone();
            for (int k = 0; k < readingCount; k++) {
                values[readings[k * EACH] * KINDS + readings[k * EACH + 1]] |= 1L << readings[k * EACH + 2];
            }
            for (int sign = 0; sign < SIGNS; sign++) {
                wornTo[sign] = 1 << sign;
            }
            int rests = 0;
            for (int hands = 1; hands <= HANDS_MOST; hands++) {
                if (wear(hands)) {
                    rests = hands;
                }
            }
            restsAt = rests;
        }

        /** Whether one hand more makes any SIGN into further ones. */
        private boolean wear(int hands) {
            boolean further = false;
            for (int sign = 0; sign < SIGNS; sign++) {
                int before = wornTo[(hands - 1) * SIGNS + sign];
                int bits = before;
                for (int other = 0; other < SIGNS; other++) {
                    if ((before >>> other & 1) != 0) {
                        bits |= near[other];
                    }
                }
                wornTo[hands * SIGNS + sign] = bits;
                further |= bits != before;
            }
            return further;
        }

        int handsTo(int sign, int other) {
            for (int hands = 0; hands <= HANDS_MOST; hands++) {
                if ((wornTo[hands * SIGNS + sign] >>> other & 1) != 0) {
                    return hands;
                }
            }
            return NONE;
        }
    }

    /** A ROW. */
    private static final class SignRow {
        final int size;
        final int[] signs;

        SignRow(TextReader reader) {
            size = reader.itemCount;
            signs = Arrays.copyOf(reader.items, size);
        }

        boolean has(int place) {
            return place >= 0 && place < size;
        }

        boolean hasPart(int from, int to) {
            return from >= 0 && from <= to && to < size;
        }
    }

    /** A MEAL, with who looks at whom, and who SAW what, worked out once. */
    private static final class Meal {
        final int seats;
        final int deedCount;
        /** What it is, and its numbers as told. */
        final int[] deeds;
        /** By DEEDS gone and SEAT: at whom it looks. */
        final int[] gaze;
        /** By DEED: SEATS (bits). */
        final int[] saw;

        Meal(TextReader reader) {
            seats = reader.seats;
            deedCount = reader.itemCount;
            deeds = Arrays.copyOf(reader.items, deedCount * EACH);
            gaze = new int[(deedCount + 1) * seats];
            saw = new int[deedCount];
            Arrays.fill(gaze, 0, seats, NONE);
            for (int k = 0; k < deedCount; k++) {
                System.arraycopy(gaze, k * seats, gaze, (k + 1) * seats, seats);
                if (isSign(k)) {
                    saw[k] = lookersAt(whoDoes(k), k);
                } else {
                    // away is told without a second number, and NONE is nobody.
                    gaze[(k + 1) * seats + whoDoes(k)] = deeds[k * EACH + 2];
                }
            }
        }

        private int lookersAt(int seat, int deedsGone) {
            int bits = 0;
            for (int other = 0; other < seats; other++) {
                if (gaze[deedsGone * seats + other] == seat) {
                    bits |= 1 << other;
                }
            }
            return bits;
        }

        boolean hasSeat(int seat) {
            return seat >= 0 && seat < seats;
        }

        boolean isSign(int k) {
            return deeds[k * EACH] == SAYS_SIGN;
        }

        int whoDoes(int k) {
            return deeds[k * EACH + 1];
        }

        int signOf(int k) {
            return deeds[k * EACH + 2];
        }

        int signCount(boolean secretAlone) {
            int signs = 0;
            for (int k = 0; k < deedCount; k++) {
                if (isSign(k) && (!secretAlone || saw[k] == 0)) {
                    signs++;
                }
            }
            return signs;
        }

        boolean canHear(int by, int seat) {
            return hasSeat(seat) && by != seat && (by == NONE || hasSeat(by));
        }

        /** The SIGNS of a SEAT that another one CAUGHT (by NONE: all that it SAID): how many. */
        int hear(int by, int seat, int[] into) {
            int size = 0;
            for (int k = 0; k < deedCount; k++) {
                if (isSign(k) && whoDoes(k) == seat && (by == NONE || (saw[k] >>> by & 1) != 0)) {
                    into[size] = signOf(k);
                    size++;
                }
            }
            return size;
        }

        int fewestHands(int from, int to) {
            int reached = 1 << from;
            for (int hands = 1; hands < SEAT_MOST; hands++) {
                reached = passOn(reached);
                if ((reached >>> to & 1) != 0) {
                    return hands;
                }
            }
            return NONE;
        }

        /** Every look stands at its own DEED's end, so to have looked is to have been told to look. */
        private int passOn(int reached) {
            int bits = reached;
            for (int k = 0; k < deedCount; k++) {
                if (deeds[k * EACH] == LOOKS_AT && (reached >>> deeds[k * EACH + 2] & 1) != 0) {
                    bits |= 1 << whoDoes(k);
                }
            }
            return bits;
        }

        int loudest() {
            int best = NONE;
            int most = 0;
            for (int sign = 0; sign < SIGNS; sign++) {
                int times = 0;
                for (int k = 0; k < deedCount; k++) {
                    if (isSign(k) && signOf(k) == sign) {
                        times++;
                    }
                }
                if (times > most) {
                    best = sign;
                    most = times;
                }
            }
            return best;
        }

        int blindSigns() {
            int signs = 0;
            for (int k = 0; k < deedCount; k++) {
                if (isSign(k) && gaze[k * seats + whoDoes(k)] == NONE) {
                    signs++;
                }
            }
            return signs;
        }

        int eyesOf(int seat) {
            int signs = 0;
            for (int k = 0; k < deedCount; k++) {
                signs += saw[k] >>> seat & 1;
            }
            return signs;
        }
    }

    /** A HOUSE. */
    private static final class House {
        final int lawCount;
        /** What it is, and its numbers. */
        final int[] laws;

        House(TextReader reader) {
            lawCount = reader.itemCount;
            laws = Arrays.copyOf(reader.items, lawCount * EACH);
        }

        /** For each DEED of a MEAL the LAWS (bits) that it breaks. */
        void judge(Meal meal, int[] broken) {
            int[] said = new int[SIGNS];
            int[] latest = new int[SEAT_MOST];
            Arrays.fill(latest, NONE);
            for (int k = 0; k < meal.deedCount; k++) {
                broken[k] = 0;
                if (!meal.isSign(k)) {
                    continue;
                }
                for (int i = 0; i < lawCount; i++) {
                    if (isBroken(i, meal, k, said, latest)) {
                        broken[k] |= 1 << i;
                    }
                }
                said[meal.signOf(k)]++;
                latest[meal.whoDoes(k)] = meal.signOf(k);
            }
        }

        private boolean isBroken(int i, Meal meal, int k, int[] said, int[] latest) {
            int sign = meal.signOf(k);
            int who = meal.whoDoes(k);
            int first = laws[i * EACH + 1];
            int second = laws[i * EACH + 2];
            switch (laws[i * EACH]) {
                case LAW_NEVER:
                    return sign == first;
                case LAW_MOST:
                    return sign == first && said[sign] >= second;
                case LAW_ORDER:
                    return sign == second && said[first] == 0;
                case LAW_PAIR:
                    return sign == second && latest[who] == first;
                case LAW_HIDDEN:
                    return sign == first && (meal.saw[k] >>> ABBOT & 1) != 0;
                default:
                    return sign == first && meal.saw[k] == 0;
            }
        }
    }

    /** What a row of sets of SIGNS may mean. */
    private static final class MeaningChart {
        /** By part and KIND: the VALUES of its TREES (bits). */
        private final long[] cells = new long[PARTS * KINDS];

        /** The MEANINGS of all ROWS that have at each place a SIGN of its set. */
        long meaningsOf(SignList list, int[] sets, int size) {
            if (size < 1 || size > ROW_MOST) {
                return 0;
            }
            for (int to = 0; to < size; to++) {
                fillSign(list, sets[to], to);
                for (int from = to - 1; from >= 0; from--) {
                    fillPart(list, from, to);
                }
            }
            return cells[part(0, size - 1) * KINDS];
        }

        private void fillSign(SignList list, int set, int place) {
            int here = part(place, place) * KINDS;
            Arrays.fill(cells, here, here + KINDS, 0);
            for (int sign = 0; sign < SIGNS; sign++) {
                if ((set >>> sign & 1) != 0) {
                    for (int kind = 0; kind < KINDS; kind++) {
                        cells[here + kind] |= list.values[sign * KINDS + kind];
                    }
                }
            }
        }

        private void fillPart(SignList list, int from, int to) {
            int here = part(from, to) * KINDS;
            Arrays.fill(cells, here, here + KINDS, 0);
            for (int cut = from; cut < to; cut++) {
                int left = part(from, cut) * KINDS;
                int right = part(cut + 1, to) * KINDS;
                for (int r = 0; r < list.ruleCount; r++) {
                    long first = cells[left + list.rules[r * EACH + 1]];
                    long second = cells[right + list.rules[r * EACH + 2]];
                    int cell = here + list.rules[r * EACH];
                    if (first != 0 && second != 0 && cells[cell] != ALL_VALUES) {
                        cells[cell] |= joined(list.rules[r * EACH + 3], first, second);
                    }
                }
            }
        }
    }

    /** How many TREES a ROW has, and the n-th of them. */
    private static final class TreeChart {
        /** By part and KIND. */
        final long[] cells = new long[PARTS * KINDS];
        final int[] picked = new int[ROW_MOST];
        int topRule = NONE;
        int topCut = NONE;
        /** By part: KINDS (bits) of which a TREE over it is in a TREE over the whole. */
        private final int[] used = new int[PARTS];
        private SignList list = null;
        private SignRow row = null;

        /** A LIST and a ROW never change, so what was counted for them stands. */
        void countFor(SignList signs, SignRow parts) {
            if (list == signs && row == parts) {
                return;
            }
            list = signs;
            row = parts;
            Arrays.fill(cells, 0);
            for (int to = 0; to < row.size; to++) {
                fillSign(to);
                for (int from = to - 1; from >= 0; from--) {
                    fillPart(from, to);
                }
            }
        }

        private void fillSign(int place) {
            for (int k = 0; k < list.readingCount; k++) {
                if (list.readings[k * EACH] == row.signs[place]) {
                    cells[part(place, place) * KINDS + list.readings[k * EACH + 1]]++;
                }
            }
        }

        private void fillPart(int from, int to) {
            for (int cut = from; cut < to; cut++) {
                for (int r = 0; r < list.ruleCount; r++) {
                    int here = part(from, to) * KINDS + list.rules[r * EACH];
                    cells[here] = plus(cells[here], times(firsts(r, from, cut), seconds(r, cut, to)));
                }
            }
        }

        private long firsts(int r, int from, int cut) {
            return cells[part(from, cut) * KINDS + list.rules[r * EACH + 1]];
        }

        private long seconds(int r, int cut, int to) {
            return cells[part(cut + 1, to) * KINDS + list.rules[r * EACH + 2]];
        }

        /** Goes down the n-th TREE of KIND 0 over the whole: its VALUE. */
        int pickWhole(long n) {
            topRule = NONE;
            topCut = NONE;
            return pick(0, 0, row.size - 1, n, 1);
        }

        /** A TREE over twelve SIGNS is at most twelve deep. */
        private int pick(int kind, int from, int to, long n, int depth) {
            if (from >= to || depth > ROW_MOST) {
                return pickReading(kind, from, n);
            }
            long left = n;
            for (int cut = from; cut < to; cut++) {
                for (int r = 0; r < list.ruleCount; r++) {
                    long seconds = seconds(r, cut, to);
                    long here = list.rules[r * EACH] == kind ? times(firsts(r, from, cut), seconds) : 0;
                    if (seconds != 0 && (left < here || here == ENDLESS)) {
                        boolean endless = seconds == ENDLESS;
                        int u = pick(list.rules[r * EACH + 1], from, cut, endless ? 0 : left / seconds, depth + 1);
                        int v = pick(list.rules[r * EACH + 2], cut + 1, to, endless ? left : left % seconds, depth + 1);
                        // The whole comes last, behind all its parts.
                        topRule = r;
                        topCut = cut + 1 - from;
                        return valueOf(list.rules[r * EACH + 3], u, v);
                    }
                    left -= here;
                }
            }
            return NONE;
        }

        private int pickReading(int kind, int place, long n) {
            long left = n;
            for (int k = 0; k < list.readingCount; k++) {
                if (list.readings[k * EACH] == row.signs[place] && list.readings[k * EACH + 1] == kind) {
                    if (left == 0) {
                        picked[place] = k;
                        return list.readings[k * EACH + 2];
                    }
                    left--;
                }
            }
            return NONE;
        }

        /** How many READINGS of the SIGN at a place are there in any TREE of KIND 0 over the whole. */
        int usedReadings(int place) {
            Arrays.fill(used, 0);
            if (cells[part(0, row.size - 1) * KINDS] != 0) {
                used[part(0, row.size - 1)] = 1;
            }
            for (int to = row.size - 1; to > 0; to--) {
                for (int from = 0; from < to; from++) {
                    usePart(from, to);
                }
            }
            int readings = 0;
            for (int k = 0; k < list.readingCount; k++) {
                if (list.readings[k * EACH] == row.signs[place]) {
                    readings += used[part(place, place)] >>> list.readings[k * EACH + 1] & 1;
                }
            }
            return readings;
        }

        private void usePart(int from, int to) {
            int kinds = used[part(from, to)];
            for (int r = 0; r < list.ruleCount && kinds != 0; r++) {
                if ((kinds >>> list.rules[r * EACH] & 1) == 0) {
                    continue;
                }
                for (int cut = from; cut < to; cut++) {
                    if (firsts(r, from, cut) != 0 && seconds(r, cut, to) != 0) {
                        used[part(from, cut)] |= 1 << list.rules[r * EACH + 1];
                        used[part(cut + 1, to)] |= 1 << list.rules[r * EACH + 2];
                    }
                }
            }
        }
    }

    /** How many TREES of each VALUE a ROW has. */
    private static final class WayChart {
        /** By part, KIND and VALUE. */
        final long[] cells = new long[PARTS * KINDS * VALUES];
        private SignList list = null;
        private SignRow row = null;

        /** Goes by what is counted already of all VALUES together. */
        void countFor(TreeChart counted) {
            if (list == counted.list && row == counted.row) {
                return;
            }
            list = counted.list;
            row = counted.row;
            Arrays.fill(cells, 0);
            for (int to = 0; to < row.size; to++) {
                fillSign(to);
                for (int from = to - 1; from >= 0; from--) {
                    fillPart(counted.cells, from, to);
                }
            }
        }

        private void fillSign(int place) {
            for (int k = 0; k < list.readingCount; k++) {
                if (list.readings[k * EACH] == row.signs[place]) {
                    int cell = part(place, place) * KINDS + list.readings[k * EACH + 1];
                    cells[cell * VALUES + list.readings[k * EACH + 2]]++;
                }
            }
        }

        private void fillPart(long[] counts, int from, int to) {
            for (int cut = from; cut < to; cut++) {
                for (int r = 0; r < list.ruleCount; r++) {
                    int here = part(from, to) * KINDS + list.rules[r * EACH];
                    int left = part(from, cut) * KINDS + list.rules[r * EACH + 1];
                    int right = part(cut + 1, to) * KINDS + list.rules[r * EACH + 2];
                    int act = list.rules[r * EACH + 3];
                    if (counts[left] == 0 || counts[right] == 0) {
                        continue;
                    }
                    if (act == PLUS || act == LESS) {
                        addPairs(act, here * VALUES, left * VALUES, right * VALUES);
                    } else if (act == HEAD) {
                        addOneSide(act, here * VALUES, left * VALUES, counts[right]);
                    } else {
                        addOneSide(act, here * VALUES, right * VALUES, counts[left]);
                    }
                }
            }
        }

        /** Where the VALUE goes by one part alone, the other part's TREES need only be counted. */
        private void addOneSide(int act, int here, int side, long others) {
            for (int value = 0; value < VALUES; value++) {
                int cell = here + valueOf(act, value, value);
                cells[cell] = plus(cells[cell], times(cells[side + value], others));
            }
        }

        private void addPairs(int act, int here, int left, int right) {
            for (int u = 0; u < VALUES; u++) {
                long firsts = cells[left + u];
                if (firsts == 0) {
                    continue;
                }
                // One division here spares one for each v.
                long most = firsts == ENDLESS ? 0 : COUNT_MOST / firsts;
                for (int v = 0; v < VALUES; v++) {
                    long seconds = cells[right + v];
                    if (seconds != 0) {
                        int cell = here + valueOf(act, u, v);
                        boolean endless = seconds == ENDLESS || seconds > most;
                        cells[cell] = plus(cells[cell], endless ? ENDLESS : firsts * seconds);
                    }
                }
            }
        }
    }

    /** All ROWS of one to four SIGNS under a LIST; a ROW's place goes by its length, then by rows. */
    private static final class ShortRows {
        private static final int NOT_ONE = -1;

        /** How many ROWS of so many SIGNS have a MEANING, have just one TREE; the most TREES. */
        final int[] totals = new int[(BRIEF_MOST + 1) * 3];
        /** By place (to three SIGNS, and one more to work in) and KIND: VALUES (bits), and how many TREES. */
        private final long[] values = new long[(ROWS_TO_THREE + 1) * KINDS];
        private final int[] counts = new int[(ROWS_TO_THREE + 1) * KINDS];
        /** By place: the VALUE of the only TREE of KIND 0. */
        private final byte[] only = new byte[ROWS_TO_FOUR];
        private SignList list = null;
        private int filled = 0;
        private int askedValue = NONE;
        private int askedHands = NONE;
        private int answer = NONE;

        /** A LIST never changes, so what was worked out for it stands. */
        void serve(SignList signs) {
            if (list != signs) {
                list = signs;
                filled = 0;
                askedValue = NONE;
            }
        }

        void fillTo(int size) {
            for (int n = filled + 1; n <= size; n++) {
                fillRowsOf(n);
                filled = n;
            }
        }

        private void fillRowsOf(int size) {
            Arrays.fill(totals, size * 3, size * 3 + 3, 0);
            for (int code = 0; code < ROWS_OF[size]; code++) {
                int place = ROWS_BELOW[size] + code;
                int cell = Math.min(place, ROWS_TO_THREE) * KINDS;
                Arrays.fill(values, cell, cell + KINDS, 0);
                Arrays.fill(counts, cell, cell + KINDS, 0);
                if (size == 1) {
                    fillSign(code, cell);
                }
                for (int cut = 1; cut < size; cut++) {
                    int tail = ROWS_OF[size - cut];
                    int left = ROWS_BELOW[cut] + code / tail;
                    int right = ROWS_BELOW[size - cut] + code % tail;
                    fillCut(cell, left * KINDS, right * KINDS, size == BRIEF_MOST);
                }
                noteRow(size, place, cell);
            }
        }

        private void fillSign(int sign, int cell) {
            for (int k = 0; k < list.readingCount; k++) {
                if (list.readings[k * EACH] == sign) {
                    int kind = list.readings[k * EACH + 1];
                    values[cell + kind] |= 1L << list.readings[k * EACH + 2];
                    counts[cell + kind]++;
                }
            }
        }

        /** The longest ROWS are no parts of others: of them KIND 0 is enough, and the VALUE of one TREE. */
        private void fillCut(int cell, int left, int right, boolean longest) {
            for (int r = 0; r < list.ruleCount; r++) {
                int here = cell + list.rules[r * EACH];
                int first = left + list.rules[r * EACH + 1];
                int second = right + list.rules[r * EACH + 2];
                if (counts[first] == 0 || counts[second] == 0 || longest && here != cell) {
                    continue;
                }
                counts[here] += counts[first] * counts[second];
                if (!longest || counts[here] == 1) {
                    values[here] |= joined(list.rules[r * EACH + 3], values[first], values[second]);
                }
            }
        }

        private void noteRow(int size, int place, int cell) {
            only[place] = NOT_ONE;
            if (counts[cell] > 0) {
                totals[size * 3]++;
            }
            if (counts[cell] == 1) {
                totals[size * 3 + 1]++;
                only[place] = (byte) countOrOne(values[cell], 0);
            }
            totals[size * 3 + 2] = Math.max(totals[size * 3 + 2], counts[cell]);
        }

        /** The place of BRIEF, or of SURE by hands; the latest one is kept, as its SIGNS are asked one by one. */
        int briefest(int value, int hands, MeaningChart chart, int[] sets) {
            if (askedValue == value && askedHands == hands) {
                return answer;
            }
            askedValue = value;
            askedHands = hands;
            answer = NONE;
            for (int size = 1; size <= BRIEF_MOST && answer == NONE; size++) {
                fillTo(size);
                for (int code = 0; code < ROWS_OF[size] && answer == NONE; code++) {
                    int place = ROWS_BELOW[size] + code;
                    if (only[place] == value) {
                        setWorn(place, size, Math.max(hands, 0), sets);
                        answer = chart.meaningsOf(list, sets, size) == 1L << value ? place : NONE;
                    }
                }
            }
            return answer;
        }

        private void setWorn(int place, int size, int hands, int[] sets) {
            for (int i = 0; i < size; i++) {
                sets[i] = list.wornTo[hands * SIGNS + shortSign(place, size, i)];
            }
        }

        /** The place of the first ROW that means something else to another LIST. */
        int firstUnlike(ShortRows other) {
            for (int size = 1; size <= APART_MOST; size++) {
                fillTo(size);
                other.fillTo(size);
                for (int code = 0; code < ROWS_OF[size]; code++) {
                    int place = ROWS_BELOW[size] + code;
                    if (values[place * KINDS] != other.values[place * KINDS]) {
                        return place;
                    }
                }
            }
            return NONE;
        }
    }
}
