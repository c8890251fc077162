import java.math.BigInteger;
import java.util.ArrayList;
import java.util.Collections;
import java.util.HashMap;
import java.util.LinkedHashSet;
import java.util.List;
import java.util.Map;
import java.util.Set;
import java.util.TreeMap;
import java.util.TreeSet;
import java.util.regex.Matcher;
import java.util.regex.Pattern;

/** The document told again in the slowest, plainest way, to compare the class with. */
final class SlowTable {
    static final int NONE = -1;
    static final BigInteger TOLD_MOST = BigInteger.TEN.pow(12);
    /** Up to so many, the ROWS that may come of one are made one by one. */
    static final int FEW_ROWS = 300;

    /** Thrown where the plain way would take too long; such a call is not compared. */
    static final class TooMuch extends RuntimeException {
        private static final long serialVersionUID = 1L;
    }

    /** One line of a text, with its first word and numbers. */
    record Line(String word, List<Integer> numbers, String act) {
        int n(int i) {
            return i < numbers.size() ? numbers.get(i) : NONE;
        }
    }

    record Token(String text, int place) {
    }

    /** A TREE, whole: its VALUE, RULE, cut, and its READINGS in order. */
    record Tree(int value, int rule, int cut, List<Integer> readings) {
    }

    static final class Signs {
        final List<Line> rules = new ArrayList<>();
        final List<Line> readings = new ArrayList<>();
        final Map<Integer, Set<Integer>> near = new HashMap<>();
        final Map<String, TreeMap<Integer, BigInteger>> known = new HashMap<>();

        Signs(List<Line> lines) {
            for (int s = 0; s < 22; s++) {
                near.put(s, new TreeSet<>());
            }
            for (Line line : lines) {
                switch (line.word()) {
                    case "rule" -> rules.add(line);
                    case "sign" -> readings.add(line);
                    default -> near.get(line.n(0)).add(line.n(1));
                }
            }
        }

        /** By VALUE, how many TREES of a KIND. */
        TreeMap<Integer, BigInteger> ways(List<Integer> row, int kind) {
            String key = row + "/" + kind;
            TreeMap<Integer, BigInteger> found = known.get(key);
            if (found != null) {
                return found;
            }
            found = new TreeMap<>();
            if (row.size() == 1) {
                for (Line r : readings) {
                    if (r.n(0) == row.get(0) && r.n(1) == kind) {
                        found.merge(r.n(2), BigInteger.ONE, BigInteger::add);
                    }
                }
            }
            for (int cut = 1; cut < row.size(); cut++) {
                for (Line r : rules) {
                    if (r.n(0) != kind) {
                        continue;
                    }
                    TreeMap<Integer, BigInteger> left = ways(row.subList(0, cut), r.n(1));
                    TreeMap<Integer, BigInteger> right = ways(row.subList(cut, row.size()), r.n(2));
                    for (Map.Entry<Integer, BigInteger> u : left.entrySet()) {
                        for (Map.Entry<Integer, BigInteger> v : right.entrySet()) {
                            found.merge(act(r.act(), u.getKey(), v.getKey()), u.getValue().multiply(v.getValue()), BigInteger::add);
                        }
                    }
                }
            }
            known.put(key, found);
            return found;
        }

        BigInteger count(List<Integer> row, int kind) {
            BigInteger sum = BigInteger.ZERO;
            for (BigInteger n : ways(row, kind).values()) {
                sum = sum.add(n);
            }
            return sum;
        }

        Set<Integer> meanings(List<Integer> row) {
            return row.isEmpty() || row.size() > 12 ? Set.of() : ways(row, 0).keySet();
        }

        /** All TREES of a KIND, in the document's order. */
        List<Tree> grow(List<Integer> row, int kind) {
            if (count(row, kind).compareTo(BigInteger.valueOf(3000)) > 0) {
                throw new TooMuch();
            }
            List<Tree> trees = new ArrayList<>();
            if (row.size() == 1) {
                for (int k = 0; k < readings.size(); k++) {
                    Line r = readings.get(k);
                    if (r.n(0) == row.get(0) && r.n(1) == kind) {
                        trees.add(new Tree(r.n(2), NONE, NONE, List.of(k)));
                    }
                }
                return trees;
            }
            for (int cut = 1; cut < row.size(); cut++) {
                for (int k = 0; k < rules.size(); k++) {
                    Line r = rules.get(k);
                    if (r.n(0) != kind || count(row.subList(0, cut), r.n(1)).signum() == 0
                        || count(row.subList(cut, row.size()), r.n(2)).signum() == 0) {
                        continue;
                    }
                    for (Tree left : grow(row.subList(0, cut), r.n(1))) {
                        for (Tree right : grow(row.subList(cut, row.size()), r.n(2))) {
                            List<Integer> both = new ArrayList<>(left.readings());
                            both.addAll(right.readings());
                            trees.add(new Tree(act(r.act(), left.value(), right.value()), k, cut, both));
                        }
                    }
                }
            }
            return trees;
        }

        /** The n-th TREE alone, where there are too many to grow them all. */
        Tree nth(List<Integer> row, int kind, BigInteger n) {
            if (row.size() == 1) {
                return grow(row, kind).get(n.intValueExact());
            }
            BigInteger left = n;
            for (int cut = 1; cut < row.size(); cut++) {
                List<Integer> one = row.subList(0, cut);
                List<Integer> two = row.subList(cut, row.size());
                for (int k = 0; k < rules.size(); k++) {
                    Line r = rules.get(k);
                    BigInteger seconds = count(two, r.n(2));
                    BigInteger here = r.n(0) == kind ? count(one, r.n(1)).multiply(seconds) : BigInteger.ZERO;
                    if (left.compareTo(here) < 0) {
                        BigInteger[] both = left.divideAndRemainder(seconds);
                        Tree u = nth(one, r.n(1), both[0]);
                        Tree v = nth(two, r.n(2), both[1]);
                        List<Integer> all = new ArrayList<>(u.readings());
                        all.addAll(v.readings());
                        return new Tree(act(r.act(), u.value(), v.value()), k, cut, all);
                    }
                    left = left.subtract(here);
                }
            }
            throw new IllegalStateException("there is none such");
        }

        /** The same LIST with further SIGNS, from 10 on: each has all READINGS of some others. */
        Signs withFurther(List<Set<Integer>> further) {
            List<Line> lines = new ArrayList<>(rules);
            lines.addAll(readings);
            for (int i = 0; i < further.size(); i++) {
                for (Line r : readings) {
                    if (further.get(i).contains(r.n(0))) {
                        lines.add(new Line("sign", List.of(10 + i, r.n(1), r.n(2)), null));
                    }
                }
            }
            return new Signs(lines);
        }

        /** Whether a READING can stand at a place: a SIGN of its own that has it alone does as well there. */
        boolean fits(List<Integer> row, int place, int reading) {
            List<Line> lines = new ArrayList<>();
            // VALUES do not matter for that, so all are 0.
            for (Line r : rules) {
                lines.add(new Line("rule", r.numbers(), "head"));
            }
            for (Line r : readings) {
                lines.add(new Line("sign", List.of(r.n(0), r.n(1), 0), null));
            }
            lines.add(new Line("sign", List.of(10, readings.get(reading).n(1), 0), null));
            List<Integer> changed = new ArrayList<>(row);
            changed.set(place, 10);
            return new Signs(lines).count(changed, 0).signum() > 0;
        }

        Set<Integer> reached(int sign, int hands) {
            Set<Integer> now = new TreeSet<>(Set.of(sign));
            for (int h = 0; h < hands; h++) {
                Set<Integer> next = new TreeSet<>(now);
                for (int one : now) {
                    next.addAll(near.get(one));
                }
                now = next;
            }
            return now;
        }

        Set<List<Integer>> worn(List<Integer> row, int hands) {
            Set<List<Integer>> now = new LinkedHashSet<>();
            now.add(row);
            for (int h = 0; h < hands; h++) {
                Set<List<Integer>> next = new LinkedHashSet<>();
                for (List<Integer> one : now) {
                    next.addAll(spread(one));
                    if (next.size() > 3000) {
                        throw new TooMuch();
                    }
                }
                if (next.size() == now.size()) {
                    break;
                }
                now = next;
            }
            return now;
        }

        private List<List<Integer>> spread(List<Integer> row) {
            List<List<Integer>> rows = new ArrayList<>();
            rows.add(new ArrayList<>());
            for (int sign : row) {
                List<List<Integer>> longer = new ArrayList<>();
                for (List<Integer> start : rows) {
                    longer.add(with(start, sign));
                    for (int other : near.get(sign)) {
                        longer.add(with(start, other));
                    }
                }
                rows = longer;
                if (rows.size() > 3000) {
                    throw new TooMuch();
                }
            }
            return rows;
        }

        TreeSet<Integer> could(List<Integer> row, int hands) {
            BigInteger rows = BigInteger.ONE;
            List<Set<Integer>> may = new ArrayList<>();
            List<Integer> places = new ArrayList<>();
            for (int i = 0; i < row.size(); i++) {
                may.add(reached(row.get(i), hands));
                places.add(10 + i);
                rows = rows.multiply(BigInteger.valueOf(may.get(i).size()));
            }
            if (rows.compareTo(BigInteger.valueOf(FEW_ROWS)) > 0) {
                return new TreeSet<>(withFurther(may).meanings(places));
            }
            TreeSet<Integer> all = new TreeSet<>();
            for (List<Integer> one : worn(row, hands)) {
                all.addAll(meanings(one));
            }
            return all;
        }

        boolean whole(List<Integer> row, int hands) {
            return !meanings(row).isEmpty() && meanings(row).containsAll(could(row, hands));
        }
    }

    static final class Table {
        int seats = 4;
        final List<Line> deeds = new ArrayList<>();

        Table(List<Line> lines) {
            for (Line line : lines) {
                if (line.word().equals("seats")) {
                    seats = line.n(0);
                } else {
                    deeds.add(line);
                }
            }
        }

        /** At whom a seat looks behind the first n deeds: its latest look or away among them. */
        int gaze(int n, int seat) {
            for (int k = n - 1; k >= 0; k--) {
                Line d = deeds.get(k);
                if (!d.word().equals("says") && d.n(0) == seat) {
                    return d.n(1);
                }
            }
            return NONE;
        }

        boolean says(int k) {
            return deeds.get(k).word().equals("says");
        }

        Set<Integer> saw(int k) {
            Set<Integer> who = new TreeSet<>();
            for (int s = 0; s < seats; s++) {
                if (says(k) && gaze(k, s) == deeds.get(k).n(0)) {
                    who.add(s);
                }
            }
            return who;
        }

        List<Integer> caught(int by, int seat) {
            List<Integer> signs = new ArrayList<>();
            for (int k = 0; k < deeds.size(); k++) {
                if (says(k) && deeds.get(k).n(0) == seat && (by == NONE || saw(k).contains(by))) {
                    signs.add(deeds.get(k).n(1));
                }
            }
            return signs;
        }

        int hands(int from, int to) {
            int[][] far = new int[seats][seats];
            for (int[] row : far) {
                java.util.Arrays.fill(row, 99);
            }
            for (int n = 1; n <= deeds.size(); n++) {
                for (int b = 0; b < seats; b++) {
                    if (gaze(n, b) != NONE) {
                        far[gaze(n, b)][b] = 1;
                    }
                }
            }
            for (int m = 0; m < seats; m++) {
                for (int a = 0; a < seats; a++) {
                    for (int b = 0; b < seats; b++) {
                        far[a][b] = Math.min(far[a][b], far[a][m] + far[m][b]);
                    }
                }
            }
            return from == to || far[from][to] >= 99 ? NONE : far[from][to];
        }
    }

    private StringBuilder tape = new StringBuilder();
    private int fault = 0;
    private int place = NONE;
    private List<Signs> lists = new ArrayList<>();
    private List<List<Integer>> rows = new ArrayList<>();
    private List<Table> meals = new ArrayList<>();
    private List<List<Line>> houses = new ArrayList<>();
    private final SlowTable[] images = new SlowTable[3];

    static int act(String act, int u, int v) {
        return switch (act) {
            case "head" -> u;
            case "tail" -> v;
            case "plus" -> (u + v) % 50;
            case "less" -> Math.floorMod(u - v, 50);
            default -> 49 - v;
        };
    }

    static List<Integer> with(List<Integer> start, int sign) {
        List<Integer> row = new ArrayList<>(start);
        row.add(sign);
        return row;
    }

    static int bits(Iterable<Integer> of) {
        int bits = 0;
        for (int i : of) {
            bits |= 1 << i;
        }
        return bits;
    }

    static int sizeOrOne(List<Integer> of, int k) {
        return k == NONE ? of.size() : k < 0 || k >= of.size() ? -2 : of.get(k);
    }

    static <T> T at(List<T> of, int k) {
        return k < 0 || k >= of.size() ? null : of.get(k);
    }

    static List<Integer> sorted(Set<Integer> of) {
        List<Integer> list = new ArrayList<>(of);
        Collections.sort(list);
        return list;
    }

    int feed(int a, int b, int c, int d, int e) {
        if (tape.length() > 580) {
            return NONE;
        }
        for (int n : new int[] {a, b, c, d, e}) {
            for (byte one : java.nio.ByteBuffer.allocate(4).putInt(n).array()) {
                tape.append((char) (one & 255));
            }
        }
        return tape.length();
    }

    int end(int n) {
        if (n < 0 || n > tape.length()) {
            return NONE;
        }
        tape.setLength(n);
        return n;
    }

    private static final Map<String, String> SHAPES = Map.ofEntries(
        Map.entry("rule", "0nnna"), Map.entry("sign", "0nnn"), Map.entry("near", "0nn"),
        Map.entry("seats", "2n"), Map.entry("look", "2nn"), Map.entry("away", "2n"), Map.entry("says", "2nn"),
        Map.entry("never", "3n"), Map.entry("most", "3nn"), Map.entry("order", "3nn"), Map.entry("pair", "3nn"),
        Map.entry("hidden", "3n"), Map.entry("seen", "3n"));
    private static final Map<String, int[]> HIGHEST = Map.ofEntries(
        Map.entry("rule", new int[] {5, 5, 5}), Map.entry("sign", new int[] {9, 5, 49}), Map.entry("near", new int[] {9, 9}),
        Map.entry("seats", new int[] {6}), Map.entry("look", new int[] {5, 5}), Map.entry("away", new int[] {5}),
        Map.entry("says", new int[] {5, 9}), Map.entry("never", new int[] {9}), Map.entry("most", new int[] {9, 9}),
        Map.entry("order", new int[] {9, 9}), Map.entry("pair", new int[] {9, 9}), Map.entry("hidden", new int[] {9}),
        Map.entry("seen", new int[] {9}));
    private static final List<String> ACTS = List.of("head", "tail", "plus", "less", "not");

    private static List<Token> tokens(String text) {
        List<Token> tokens = new ArrayList<>();
        Matcher m = Pattern.compile("[ \\n]+|[a-z]+|[0-9]+|.", Pattern.DOTALL).matcher(text);
        while (m.find()) {
            if (!m.group().isBlank() || !m.group().matches("[ \\n]+")) {
                tokens.add(new Token(m.group(), m.start()));
            }
        }
        tokens.add(new Token("", text.length()));
        return tokens;
    }

    int text(int sort, int at) {
        String taken = tape.toString();
        tape.setLength(0);
        fault = 0;
        place = NONE;
        if (sort < 0 || sort > 3) {
            return -2;
        }
        int most = sort == 1 ? 3 : 2;
        if (at == NONE ? count(sort) == most : at < 0 || at >= count(sort)) {
            return -2;
        }
        List<Token> tokens = tokens(taken);
        int endPlace = taken.length();
        int bad = sort == 1 ? badInRow(tokens) : badInLines(tokens, sort);
        if (bad != NONE) {
            fault = 1;
            place = bad;
            return NONE;
        }
        List<Line> lines = sort == 1 ? List.of() : lines(tokens);
        List<int[]> faults = new ArrayList<>();
        if (sort == 1) {
            for (int i = 0; i + 1 < tokens.size(); i++) {
                if (Integer.parseInt(tokens.get(i).text()) > 9) {
                    faults.add(new int[] {tokens.get(i).place(), 2});
                }
                if (i == 12) {
                    faults.add(new int[] {tokens.get(i).place(), 3});
                }
            }
            if (tokens.size() == 1) {
                faults.add(new int[] {endPlace, 4});
            }
        } else {
            noteFaults(tokens, faults);
            Table told = sort == 2 ? new Table(lines) : new Table(List.of());
            for (Line d : told.deeds) {
                if (d.n(0) >= told.seats || d.word().equals("look") && d.n(1) >= told.seats) {
                    faults.add(new int[] {endPlace, 4});
                }
            }
        }
        if (!faults.isEmpty()) {
            faults.sort((x, y) -> x[0] != y[0] ? x[0] - y[0] : x[1] - y[1]);
            place = faults.get(0)[0];
            fault = faults.get(0)[1];
            return NONE;
        }
        int number = at == NONE ? count(sort) : at;
        switch (sort) {
            case 0 -> put(lists, number, new Signs(lines));
            case 1 -> {
                List<Integer> row = new ArrayList<>();
                for (Token t : tokens.subList(0, tokens.size() - 1)) {
                    row.add(Integer.parseInt(t.text()));
                }
                put(rows, number, row);
            }
            case 2 -> put(meals, number, new Table(lines));
            default -> put(houses, number, lines);
        }
        return number;
    }

    private static <T> void put(List<T> into, int number, T what) {
        if (number == into.size()) {
            into.add(what);
        } else {
            into.set(number, what);
        }
    }

    private static int badInRow(List<Token> tokens) {
        for (Token t : tokens.subList(0, tokens.size() - 1)) {
            if (!t.text().matches("[0-9]{1,2}")) {
                return t.place();
            }
        }
        return NONE;
    }

    /** What must come next is told by a row of letters: w a first word, n a number, a an act, ; its end. */
    private static int badInLines(List<Token> tokens, int sort) {
        String due = "w";
        for (Token t : tokens) {
            char want = due.charAt(0);
            due = due.substring(1);
            boolean fits;
            if (want == 'w') {
                if (t.text().isEmpty()) {
                    return NONE;
                }
                String shape = SHAPES.get(t.text());
                fits = shape != null && shape.charAt(0) == '0' + sort;
                due = fits ? shape.substring(1) + ";w" : due;
            } else if (want == 'n') {
                fits = t.text().matches("[0-9]{1,2}");
            } else if (want == 'a') {
                fits = ACTS.contains(t.text());
            } else {
                fits = t.text().equals(";");
            }
            if (!fits) {
                return t.place();
            }
        }
        return NONE;
    }

    private static List<Line> lines(List<Token> tokens) {
        List<Line> lines = new ArrayList<>();
        int i = 0;
        while (!tokens.get(i).text().isEmpty()) {
            String word = tokens.get(i++).text();
            List<Integer> numbers = new ArrayList<>();
            String act = "";
            while (!tokens.get(i).text().equals(";")) {
                String t = tokens.get(i++).text();
                if (ACTS.contains(t)) {
                    act = t;
                } else {
                    numbers.add(Integer.parseInt(t));
                }
            }
            i++;
            lines.add(new Line(word, numbers, act));
        }
        return lines;
    }

    private static void noteFaults(List<Token> tokens, List<int[]> faults) {
        Map<String, Integer> seen = new HashMap<>();
        String word = "";
        int index = 0;
        int first = 0;
        for (Token t : tokens) {
            if (SHAPES.containsKey(t.text())) {
                word = t.text();
                index = 0;
                char sort = SHAPES.get(word).charAt(0);
                String group = sort == '0' ? word : word.equals("seats") ? word : "" + sort;
                int there = seen.merge(group, 1, Integer::sum);
                int most = switch (group) {
                    case "rule" -> 10;
                    case "sign" -> 16;
                    case "2" -> 50;
                    case "3" -> 8;
                    default -> 1000;
                };
                if (there == most + 1) {
                    faults.add(new int[] {t.place(), 3});
                }
            } else if (t.text().matches("[0-9]+")) {
                int n = Integer.parseInt(t.text());
                boolean pairs = word.equals("near") || word.equals("look");
                if (n > HIGHEST.get(word)[index] || word.equals("seats") && n == 0 || pairs && index == 1 && n == first) {
                    faults.add(new int[] {t.place(), 2});
                }
                first = index == 0 ? n : first;
                index++;
            }
        }
    }

    int fault(int what) {
        return what == 0 ? fault : what == 1 ? place : NONE;
    }

    int count(int sort) {
        return switch (sort) {
            case 0 -> lists.size();
            case 1 -> rows.size();
            case 2 -> meals.size();
            case 3 -> houses.size();
            default -> -2;
        };
    }

    int list(int list, int what) {
        Signs s = at(lists, list);
        if (s == null) {
            return NONE;
        }
        return what == 0 ? s.rules.size() : what == 1 ? s.readings.size()
            : what >= 10 && what <= 19 ? bits(s.near.get(what - 10)) : NONE;
    }

    int rule(int list, int k, int what) {
        Signs s = at(lists, list);
        Line r = s == null ? null : at(s.rules, k);
        if (r == null || what < 0 || what > 3) {
            return NONE;
        }
        return what == 3 ? ACTS.indexOf(r.act()) : r.n(what);
    }

    int reading(int list, int k, int what) {
        Signs s = at(lists, list);
        Line r = s == null ? null : at(s.readings, k);
        return r == null || what < 0 || what > 2 ? NONE : r.n(what);
    }

    int row(int row, int k) {
        List<Integer> r = at(rows, row);
        return r == null ? -2 : sizeOrOne(r, k);
    }

    long trees(int list, int row, int kind, int from, int to) {
        Signs s = at(lists, list);
        List<Integer> r = at(rows, row);
        if (s == null || r == null || kind < 0 || kind > 5 || from < 0 || to < from || to >= r.size()) {
            return NONE;
        }
        return s.count(r.subList(from, to + 1), kind).min(TOLD_MOST).longValue();
    }

    int means(int list, int row, int k) {
        Signs s = at(lists, list);
        List<Integer> r = at(rows, row);
        return s == null || r == null ? -2 : sizeOrOne(sorted(s.meanings(r)), k);
    }

    long ways(int list, int row, int value) {
        Signs s = at(lists, list);
        List<Integer> r = at(rows, row);
        if (s == null || r == null || value < 0 || value > 49) {
            return NONE;
        }
        return s.ways(r, 0).getOrDefault(value, BigInteger.ZERO).min(TOLD_MOST).longValue();
    }

    int tree(int list, int row, long n, int what) {
        Signs s = at(lists, list);
        List<Integer> r = at(rows, row);
        if (s == null || r == null || n < 0 || BigInteger.valueOf(n).compareTo(s.count(r, 0)) >= 0) {
            return -2;
        }
        if (what < 0 || what > 2 && what < 10 || what >= 10 + r.size()) {
            return -2;
        }
        boolean many = s.count(r, 0).compareTo(BigInteger.valueOf(3000)) > 0;
        Tree t = many ? s.nth(r, 0, BigInteger.valueOf(n)) : s.grow(r, 0).get((int) n);
        return what == 0 ? t.value() : what == 1 ? t.rule() : what == 2 ? t.cut() : t.readings().get(what - 10);
    }

    int could(int list, int row, int h, int k) {
        Signs s = at(lists, list);
        List<Integer> r = at(rows, row);
        return s == null || r == null || h < 0 || h > 9 ? -2 : sizeOrOne(sorted(s.could(r, h)), k);
    }

    long worn(int list, int row, int h) {
        Signs s = at(lists, list);
        List<Integer> r = at(rows, row);
        if (s == null || r == null || h < 0 || h > 9) {
            return NONE;
        }
        long rows = 1;
        for (int sign : r) {
            rows *= s.reached(sign, h).size();
        }
        return rows > FEW_ROWS ? rows : s.worn(r, h).size();
    }

    int lasts(int list, int row) {
        Signs s = at(lists, list);
        List<Integer> r = at(rows, row);
        if (s == null || r == null) {
            return NONE;
        }
        for (int h = 9; h >= 0; h--) {
            if (s.whole(r, h)) {
                return h;
            }
        }
        return NONE;
    }

    private static List<List<Integer>> rowsOf(int n) {
        List<List<Integer>> all = new ArrayList<>();
        all.add(List.of());
        for (int i = 0; i < n; i++) {
            List<List<Integer>> longer = new ArrayList<>();
            for (List<Integer> row : all) {
                for (int s = 0; s < 10; s++) {
                    longer.add(with(row, s));
                }
            }
            all = longer;
        }
        return all;
    }

    private static int tellRow(List<Integer> row, int what) {
        return row == null || what < 0 || what > row.size() ? NONE : what == 0 ? row.size() : row.get(what - 1);
    }

    int brief(int list, int value, int h, int what) {
        Signs s = at(lists, list);
        if (s == null || value < 0 || value > 49 || h < NONE || h > 9) {
            return NONE;
        }
        for (int n = 1; n <= 4; n++) {
            for (List<Integer> row : rowsOf(n)) {
                if (s.count(row, 0).equals(BigInteger.ONE) && s.meanings(row).contains(value) && (h == NONE || s.whole(row, h))) {
                    return tellRow(row, what);
                }
            }
        }
        return NONE;
    }

    int apart(int one, int two, int what) {
        Signs a = at(lists, one);
        Signs b = at(lists, two);
        for (int n = 1; n <= 3 && a != null && b != null; n++) {
            for (List<Integer> row : rowsOf(n)) {
                if (!a.meanings(row).equals(b.meanings(row))) {
                    return tellRow(row, what);
                }
            }
        }
        return NONE;
    }

    int hole(int list, int row, int place) {
        Signs s = at(lists, list);
        List<Integer> r = at(rows, row);
        if (s == null || r == null || place < 0 || place >= r.size()) {
            return NONE;
        }
        Set<Integer> signs = new TreeSet<>();
        for (int sign = 0; sign < 10; sign++) {
            List<Integer> other = new ArrayList<>(r);
            other.set(place, sign);
            if (!s.meanings(other).isEmpty()) {
                signs.add(sign);
            }
        }
        return bits(signs);
    }

    int idle(int list, int row) {
        Signs s = at(lists, list);
        List<Integer> r = at(rows, row);
        if (s == null || r == null) {
            return NONE;
        }
        Set<Integer> places = new TreeSet<>();
        for (int p = 0; p < r.size() && r.size() > 1; p++) {
            List<Integer> other = new ArrayList<>(r);
            other.remove(p);
            if (s.meanings(other).equals(s.meanings(r))) {
                places.add(p);
            }
        }
        return bits(places);
    }

    int doubt(int list, int row, int place) {
        Signs s = at(lists, list);
        List<Integer> r = at(rows, row);
        if (s == null || r == null || place < 0 || place >= r.size()) {
            return NONE;
        }
        Set<Integer> used = new TreeSet<>();
        if (s.count(r, 0).compareTo(BigInteger.valueOf(3000)) > 0) {
            for (int k = 0; k < s.readings.size(); k++) {
                if (s.readings.get(k).n(0) == r.get(place) && s.fits(r, place, k)) {
                    used.add(k);
                }
            }
            return used.size();
        }
        for (Tree t : s.grow(r, 0)) {
            used.add(t.readings().get(place));
        }
        return used.size();
    }

    int meal(int meal, int what) {
        Table t = at(meals, meal);
        if (t == null || what < 0 || what > 3) {
            return NONE;
        }
        int said = 0;
        int secret = 0;
        for (int k = 0; k < t.deeds.size(); k++) {
            said += t.says(k) ? 1 : 0;
            secret += t.says(k) && t.saw(k).isEmpty() ? 1 : 0;
        }
        return new int[] {t.seats, t.deeds.size(), said, secret}[what];
    }

    int deed(int meal, int k, int what) {
        Table t = at(meals, meal);
        Line d = t == null ? null : at(t.deeds, k);
        if (d == null || what < 0 || what > 3) {
            return -2;
        }
        return what == 0 ? List.of("look", "away", "says").indexOf(d.word()) : what == 3 ? bits(t.saw(k)) : d.n(what - 1);
    }

    int looks(int meal, int n, int seat) {
        Table t = at(meals, meal);
        return t == null || n < 0 || n > t.deeds.size() || seat < 0 || seat >= t.seats ? -2 : t.gaze(n, seat);
    }

    private static boolean noPair(Table t, int by, int seat) {
        return t == null || seat < 0 || seat >= t.seats || by < NONE || by >= t.seats || by == seat;
    }

    int caught(int meal, int by, int seat, int k) {
        Table t = at(meals, meal);
        return noPair(t, by, seat) ? -2 : sizeOrOne(t.caught(by, seat), k);
    }

    int knows(int list, int meal, int by, int seat, int k) {
        Table t = at(meals, meal);
        Signs s = at(lists, list);
        return s == null || noPair(t, by, seat) ? -2 : sizeOrOne(sorted(s.meanings(t.caught(by, seat))), k);
    }

    int sure(int list, int meal, int seat) {
        Table t = at(meals, meal);
        Signs s = at(lists, list);
        if (s == null || noPair(t, NONE, seat)) {
            return NONE;
        }
        Set<Integer> sure = new TreeSet<>();
        for (int by = 0; by < t.seats; by++) {
            Set<Integer> known = s.meanings(t.caught(by, seat));
            if (by != seat && known.size() == 1 && known.equals(s.meanings(t.caught(NONE, seat)))) {
                sure.add(by);
            }
        }
        return bits(sure);
    }

    int passed(int meal, int from, int to) {
        Table t = at(meals, meal);
        return noPair(t, NONE, from) || noPair(t, NONE, to) ? NONE : t.hands(from, to);
    }

    boolean reaches(int list, int row, int meal, int from, int to) {
        Signs s = at(lists, list);
        List<Integer> r = at(rows, row);
        int hands = passed(meal, from, to);
        return s != null && r != null && hands != NONE && s.whole(r, hands - 1);
    }

    int watch(int meal, int seat, boolean signs) {
        Table t = at(meals, meal);
        if (noPair(t, NONE, seat) || t.seats == 1) {
            return NONE;
        }
        int best = NONE;
        for (int other = t.seats - 1; other >= 0; other--) {
            if (other != seat && (best == NONE || t.caught(NONE, other).size() >= t.caught(NONE, best).size())) {
                best = other;
            }
        }
        return signs ? t.caught(NONE, best).size() : best;
    }

    int law(int house, int k, int what) {
        List<Line> h = at(houses, house);
        if (h == null || what < 0 || what > 2) {
            return -2;
        }
        if (k == NONE) {
            return what == 0 ? h.size() : -2;
        }
        Line l = at(h, k);
        return l == null ? -2 : what > 0 ? l.n(what - 1)
            : List.of("never", "most", "order", "pair", "hidden", "seen").indexOf(l.word());
    }

    private static boolean broken(Line law, Table t, int k) {
        if (!t.says(k)) {
            return false;
        }
        int sign = t.deeds.get(k).n(1);
        int who = t.deeds.get(k).n(0);
        List<Integer> before = new ArrayList<>();
        List<Integer> own = new ArrayList<>();
        for (int j = 0; j < k; j++) {
            if (t.says(j)) {
                before.add(t.deeds.get(j).n(1));
                if (t.deeds.get(j).n(0) == who) {
                    own.add(t.deeds.get(j).n(1));
                }
            }
        }
        return switch (law.word()) {
            case "never" -> sign == law.n(0);
            case "most" -> sign == law.n(0) && Collections.frequency(before, sign) + 1 > law.n(1);
            case "order" -> sign == law.n(1) && !before.contains(law.n(0));
            case "pair" -> sign == law.n(1) && !own.isEmpty() && own.get(own.size() - 1) == law.n(0);
            case "hidden" -> sign == law.n(0) && t.gaze(k, 0) == who;
            default -> sign == law.n(0) && t.saw(k).isEmpty();
        };
    }

    int breaks(int house, int meal, int what) {
        List<Line> h = at(houses, house);
        Table t = at(meals, meal);
        for (int k = 0; h != null && t != null && k < t.deeds.size(); k++) {
            for (int l = 0; l < h.size(); l++) {
                if (broken(h.get(l), t, k)) {
                    return what == 0 ? k : what == 1 ? l : what == 2 ? t.deeds.get(k).n(0) : NONE;
                }
            }
        }
        return NONE;
    }

    private static int sins(List<Line> laws, Table t, int seat) {
        int sins = 0;
        for (int k = 0; k < t.deeds.size(); k++) {
            boolean any = false;
            for (Line l : laws) {
                any |= broken(l, t, k);
            }
            sins += any && (seat == NONE || t.deeds.get(k).n(0) == seat) ? 1 : 0;
        }
        return sins;
    }

    int sins(int house, int meal, int seat) {
        List<Line> h = at(houses, house);
        Table t = at(meals, meal);
        return h == null || t == null || seat < NONE || seat >= t.seats ? NONE : sins(h, t, seat);
    }

    int mildest(int house, int meal) {
        List<Line> h = at(houses, house);
        Table t = at(meals, meal);
        int best = NONE;
        int fewest = 0;
        for (int l = 0; h != null && t != null && l < h.size(); l++) {
            List<Line> others = new ArrayList<>(h);
            others.remove(l);
            int sins = sins(others, t, NONE);
            if (best == NONE || sins < fewest) {
                best = l;
                fewest = sins;
            }
        }
        return best;
    }

    int drawn(int list, int row, int h, int seed, int i) {
        Signs s = at(lists, list);
        List<Integer> r = at(rows, row);
        if (s == null || r == null || h < 0 || h > 9 || i < 0 || i >= r.size()) {
            return NONE;
        }
        List<Integer> now = new ArrayList<>(r);
        long x = seed & 0xffffffffL;
        for (int hand = 0; hand < h; hand++) {
            for (int k = 0; k < now.size(); k++) {
                x = (x * 1103515245L + 12345L) & 0xffffffffL;
                List<Integer> choice = new ArrayList<>(List.of(now.get(k)));
                choice.addAll(s.near.get(now.get(k)));
                now.set(k, choice.get((int) ((x >> 16) % choice.size())));
            }
        }
        return now.get(i);
    }

    long all(int list, int n, int what) {
        Signs s = at(lists, list);
        if (s == null || n < 1 || n > 4 || what < 0 || what > 2) {
            return NONE;
        }
        long have = 0;
        long one = 0;
        BigInteger most = BigInteger.ZERO;
        for (List<Integer> row : rowsOf(n)) {
            BigInteger count = s.count(row, 0);
            have += count.signum();
            one += count.equals(BigInteger.ONE) ? 1 : 0;
            most = most.max(count);
        }
        return what == 0 ? have : what == 1 ? one : most.min(TOLD_MOST).longValue();
    }

    int becomes(int list, int row, int other) {
        Signs s = at(lists, list);
        List<Integer> one = at(rows, row);
        List<Integer> two = at(rows, other);
        if (s == null || one == null || two == null || one.size() != two.size()) {
            return NONE;
        }
        for (int h = 0; h <= 9; h++) {
            if (s.worn(one, h).contains(two)) {
                return h;
            }
        }
        return NONE;
    }

    int can(int list, int row, int from, int to) {
        int bits = 0;
        for (int kind = 0; kind < 6; kind++) {
            long trees = trees(list, row, kind, from, to);
            if (trees == NONE) {
                return NONE;
            }
            bits |= trees > 0 ? 1 << kind : 0;
        }
        return bits;
    }

    int asks(int list, int value, int meal, int from, int to, int what) {
        int hands = passed(meal, from, to);
        return hands == NONE ? NONE : brief(list, value, hands - 1, what);
    }

    int hears(int meal, int what) {
        Table t = at(meals, meal);
        if (t == null || what < 0 || what > 1 && what < 10 || what >= 10 + t.seats) {
            return -2;
        }
        int[] said = new int[10];
        int[] eyes = new int[6];
        int blind = 0;
        int most = 0;
        for (int k = 0; k < t.deeds.size(); k++) {
            if (t.says(k)) {
                most = Math.max(most, ++said[t.deeds.get(k).n(1)]);
                blind += t.gaze(k, t.deeds.get(k).n(0)) == NONE ? 1 : 0;
                for (int s : t.saw(k)) {
                    eyes[s]++;
                }
            }
        }
        if (what > 0) {
            return what == 1 ? blind : eyes[what - 10];
        }
        int loudest = 0;
        while (loudest < 9 && said[loudest] != most) {
            loudest++;
        }
        return most == 0 ? NONE : loudest;
    }

    int like(int list, int row, int other) {
        Signs s = at(lists, list);
        List<Integer> one = at(rows, row);
        List<Integer> two = at(rows, other);
        if (s == null || one == null || two == null) {
            return NONE;
        }
        Set<Integer> both = new TreeSet<>(s.meanings(one));
        both.retainAll(s.meanings(two));
        return both.size();
    }

    private static void copy(SlowTable from, SlowTable to) {
        to.tape = new StringBuilder(from.tape);
        to.fault = from.fault;
        to.place = from.place;
        to.lists = new ArrayList<>(from.lists);
        to.rows = new ArrayList<>(from.rows);
        to.meals = new ArrayList<>(from.meals);
        to.houses = new ArrayList<>(from.houses);
    }

    boolean image(int k) {
        if (k < 0 || k > 2) {
            return false;
        }
        images[k] = new SlowTable();
        copy(this, images[k]);
        return true;
    }

    boolean again(int k) {
        if (k < 0 || k > 2 || images[k] == null) {
            return false;
        }
        copy(images[k], this);
        return true;
    }
}
