/** The edges of Terms 1 and of promises 1 to 9 and 42 to 44: the tape, texts, FAULTS, what was told, images. */
public final class EdgeOfTextsTest extends Edges {
    /** Every line that a text can have, with the least numbers, token by token. */
    private static final String[] LINES = {
        "0 rule 0 0 0 head ;", "0 rule 0 0 0 tail ;", "0 rule 0 0 0 plus ;", "0 rule 0 0 0 less ;", "0 rule 0 0 0 not ;",
        "0 sign 0 0 0 ;", "0 near 0 1 ;",
        "2 seats 1 ;", "2 look 0 1 ;", "2 away 0 ;", "2 says 0 0 ;",
        "3 never 0 ;", "3 most 0 0 ;", "3 order 0 0 ;", "3 pair 0 0 ;", "3 hidden 0 ;", "3 seen 0 ;"};

    public static void main(String[] args) {
        EdgeOfTextsTest t = new EdgeOfTextsTest();
        t.numbersThatCanBe();
        t.secondIsTheFirst();
        t.manyOfAList();
        t.manyOfARow();
        t.manyOfAMeal();
        t.manyOfAHouse();
        t.seatsAtFirst();
        t.longestTape();
        t.blanks();
        t.letters();
        t.digits();
        t.longestTokens();
        t.linesCutShort();
        t.linesWithMore();
        t.wordsOfOtherSorts();
        t.emptyTexts();
        t.laterOnes();
        t.faultOneFirst();
        t.firstByPlace();
        t.faultFourIsLast();
        t.faultFour();
        t.seatsNotThere();
        t.newObject();
        t.newObjectAnswers();
        t.feed();
        t.feedFull();
        t.end();
        t.text();
        t.textRefused();
        t.textFaulty();
        t.fault();
        t.list();
        t.rule();
        t.reading();
        t.row();
        t.count();
        t.image();
        t.again();
        t.close("EdgeOfTextsTest");
    }

    /** All numbers of one and of two digits between two parts of a text. */
    private void numbers(int sort, String before, String behind, int least, int greatest) {
        for (int n = 0; n < 100; n++) {
            boolean can = n >= least && n <= greatest;
            fault(sort, before + n + behind, can ? 0 : 2, can ? NONE : before.length());
            if (n < 10) {
                fault(sort, before + "0" + n + behind, can ? 0 : 2, can ? NONE : before.length());
            }
        }
    }

    private void numbersThatCanBe() {
        sentence("Terms 1", "SIGNS 0 .. 9");
        numbers(LIST, "sign ", " 0 0;", 0, 9);
        numbers(LIST, "near 1 0;near 0 1;sign ", " 5 49;", 0, 9);
        numbers(ROW, "", "", 0, 9);
        numbers(ROW, "9 ", " 0", 0, 9);
        numbers(MEAL, "says 0 ", ";", 0, 9);
        numbers(HOUSE, "never ", ";", 0, 9);
        numbers(HOUSE, "most ", " 0;", 0, 9);
        numbers(HOUSE, "order ", " 0;", 0, 9);
        numbers(HOUSE, "order 0 ", ";", 0, 9);
        numbers(HOUSE, "pair ", " 0;", 0, 9);
        numbers(HOUSE, "pair 0 ", ";", 0, 9);
        numbers(HOUSE, "hidden ", ";", 0, 9);
        numbers(HOUSE, "seen ", ";", 0, 9);
        sentence("Terms 1", "near NUMBER NUMBER (SIGN, another one)");
        numbers(LIST, "near 0 ", ";", 1, 9);
        numbers(LIST, "near 9 ", ";", 0, 8);
        numbers(LIST, "near ", " 0;", 1, 9, 0);
        sentence("Terms 1", "KINDS 0 .. 5");
        numbers(LIST, "rule ", " 0 0 not;", 0, 5);
        numbers(LIST, "rule 0 ", " 0 not;", 0, 5);
        numbers(LIST, "rule 0 0 ", " not;", 0, 5);
        numbers(LIST, "sign 0 ", " 0;", 0, 5);
        sentence("Terms 1", "a VALUE, 0 .. 49");
        numbers(LIST, "sign 0 0 ", ";", 0, 49);
        sentence("Terms 1", "SEATS, 1 .. 6");
        numbers(MEAL, "seats ", ";", 1, 6);
        sentence("Terms 1", "SEATS are 0 .. 5");
        numbers(MEAL, "seats 6;look 0 ", ";", 1, 5);
        numbers(MEAL, "seats 6;look 5 ", ";", 0, 4);
        numbers(MEAL, "seats 6;away ", ";", 0, 5);
        numbers(MEAL, "seats 6;says ", " 0;", 0, 5);
        sentence("Terms 1", "most: a SIGN, 0 .. 9 times");
        numbers(HOUSE, "most 0 ", ";", 0, 9);
    }

    /** As above, where one number makes the next one, two bytes behind it, wrong. */
    private void numbers(int sort, String before, String behind, int least, int greatest, int same) {
        for (int n = 0; n < 100; n++) {
            if (n == same) {
                fault(sort, before + n + behind, 2, before.length() + 2);
            } else {
                boolean can = n >= least && n <= greatest;
                fault(sort, before + n + behind, can ? 0 : 2, can ? NONE : before.length());
            }
        }
    }

    private void secondIsTheFirst() {
        sentence("Terms 1", "the second one of near, look, if it is the first");
        for (int n = 0; n <= 9; n++) {
            fault(LIST, "near " + n + " " + n + ";", 2, 7);
            fault(LIST, "near 0" + n + " " + n + ";", 2, 8);
            fits(LIST, "near " + n + " " + (n + 1) % 10 + ";");
        }
        for (int n = 0; n <= 5; n++) {
            fault(MEAL, "seats 6;look " + n + " " + n + ";", 2, 15);
            fits(MEAL, "seats 6;look " + n + " " + (n + 1) % 6 + ";");
        }
        fault(LIST, "near 10 10;", 2, 5);
        fault(MEAL, "look 6 6;", 2, 5);
        // Of all other lines the second one may be the first.
        fits(HOUSE, "order 3 3;pair 3 3;most 3 3;");
        fits(LIST, "rule 3 3 3 plus;sign 3 3 3;");
        fits(MEAL, "says 3 3;");
    }

    private void manyOfAList() {
        sentence("Terms 1", "RULES, at most 10, from 0 on; an 11th RULE, at its first token");
        String[] acts = {"head", "tail", "plus", "less", "not"};
        for (String act : acts) {
            String line = "rule 5 4 3 " + act + ";";
            fits(LIST, line.repeat(10));
            fault(LIST, line.repeat(11), 3, 10 * line.length());
            fault(LIST, line.repeat(10) + " \n" + line, 3, 10 * line.length() + 2);
        }
        SilentTable x = table("0 " + "rule 1 2 3 less;".repeat(9) + "rule 5 4 2 not;");
        is("ten rules", x.list(0, 0), 10);
        is("rule 9", x.rule(0, 9, 0) * 1000 + x.rule(0, 9, 1) * 100 + x.rule(0, 9, 2) * 10 + x.rule(0, 9, 3), 5424);
        is("rule 0", x.rule(0, 0, 3), 3);
        sentence("Terms 1", "READINGS, at most 16, from 0 on; a 17th READING");
        fits(LIST, "sign 9 5 49;".repeat(16));
        fault(LIST, "sign 9 5 49;".repeat(17), 3, 16 * 12);
        fault(LIST, "sign 9 5 49;".repeat(16) + "\nsign 0 0 0;", 3, 16 * 12 + 1);
        SilentTable y = table("0 " + "sign 1 2 3;".repeat(15) + "sign 9 5 49;");
        is("sixteen readings", y.list(0, 1), 16);
        is("reading 15", y.reading(0, 15, 0) * 1000 + y.reading(0, 15, 1) * 100 + y.reading(0, 15, 2), 9549);
        is("reading 14", y.reading(0, 14, 2), 3);
        sentence("Terms 1", "RULES and READINGS are told beside one another, NEAR as often as it may be");
        fits(LIST, "rule 0 0 0 not;".repeat(10) + "sign 0 0 0;".repeat(16) + "near 0 1;".repeat(30));
        fits(LIST, "near 0 1;".repeat(66));
        fault(LIST, "sign 0 0 0;".repeat(16) + "rule 0 0 0 not;".repeat(11), 3, 16 * 11 + 150);
        fault(LIST, "rule 0 0 0 not;".repeat(10) + "sign 0 0 0;".repeat(17), 3, 150 + 16 * 11);
        sentence("Terms 1", "NEAR: of a SIGN SIGNS (bits): none, all others");
        StringBuilder all = new StringBuilder("0 ");
        for (int s = 0; s < 9; s++) {
            all.append("near 9 ").append(s).append(";near 0 ").append(s + 1).append(";");
        }
        SilentTable z = table(all.toString());
        is("near of 9", z.list(0, 19), 511);
        is("near of 0", z.list(0, 10), 1022);
        is("near of 5", z.list(0, 15), 0);
    }

    private void manyOfARow() {
        sentence("Terms 1", "A ROW has 1 to 12 SIGNS; of a ROW a 13th NUMBER, at it; no SIGN");
        fault(ROW, "", 4, 0);
        for (int n = 1; n <= 12; n++) {
            fits(ROW, "9 ".repeat(n));
            SilentTable x = table("1 " + "8 ".repeat(n - 1) + "9");
            is("signs", x.row(0, NONE), n);
            is("the last one", x.row(0, n - 1), 9);
        }
        fault(ROW, "9 ".repeat(13), 3, 24);
        fault(ROW, "9 ".repeat(12) + "\n \n9", 3, 27);
        fault(ROW, "9 ".repeat(300), 3, 24);
        fault(ROW, "00 ".repeat(13), 3, 36);
    }

    private void manyOfAMeal() {
        sentence("Terms 1", "DEEDS, at most 50, from 0 on; a 51st DEED, at its first token");
        String[] deeds = {"look 0 1;", "away 0;", "says 0 9;"};
        for (String deed : deeds) {
            fits(MEAL, deed.repeat(50));
            fault(MEAL, deed.repeat(51), 3, 50 * deed.length());
            fault(MEAL, deed.repeat(50) + " " + deeds[0], 3, 50 * deed.length() + 1);
            fault(MEAL, deed.repeat(50) + " " + deeds[1], 3, 50 * deed.length() + 1);
            fault(MEAL, deed.repeat(50) + " " + deeds[2], 3, 50 * deed.length() + 1);
            is("deeds", table("2 " + deed.repeat(50)).meal(0, 1), 50);
        }
        SilentTable x = table("2 " + "away 3;".repeat(49) + "says 2 7;");
        is("deed 49", x.deed(0, 49, 0) * 100 + x.deed(0, 49, 1) * 10 + x.deed(0, 49, 2), 227);
        is("deed 48", x.deed(0, 48, 1), 3);
        sentence("Terms 1", "seats is no DEED");
        fits(MEAL, "seats 1;".repeat(75));
        is("deeds", table("2 " + "seats 1;".repeat(75)).meal(0, 1), 0);
        fits(MEAL, "seats 2;".repeat(10) + "away 0;".repeat(50) + "seats 1;");
    }

    private void manyOfAHouse() {
        sentence("Terms 1", "LAWS, at most 8, from 0 on; a 9th LAW, at its first token");
        String[] laws = {"never 9;", "most 9 9;", "order 9 8;", "pair 9 8;", "hidden 9;", "seen 9;"};
        for (int k = 0; k < 6; k++) {
            fits(HOUSE, laws[k].repeat(8));
            fault(HOUSE, laws[k].repeat(9), 3, 8 * laws[k].length());
            for (String law : laws) {
                fault(HOUSE, laws[k].repeat(8) + "\n" + law, 3, 8 * laws[k].length() + 1);
            }
            SilentTable x = table("3 " + "seen 1;".repeat(7) + laws[k]);
            is("laws", x.law(0, NONE, 0), 8);
            is("law 7", x.law(0, 7, 0), k);
            is("its number", x.law(0, 7, 1), 9);
        }
    }

    private void seatsAtFirst() {
        sentence("Terms 1", "A MEAL has SEATS, 1 .. 6 (4 at first)");
        is("at first", table("2 ").meal(0, 0), 4);
        fits(MEAL, "says 3 0;");
        fault(MEAL, "says 4 0;", 4, 9);
        for (int n = 1; n <= 6; n++) {
            SilentTable x = table("2 seats " + n + ";");
            is("seats", x.meal(0, 0), n);
            is("the last one", x.looks(0, 0, n - 1), NONE);
            is("behind it", x.looks(0, 0, n), MISSING);
        }
    }

    private void longestTape() {
        sentence("Terms 1", "THE TAPE has at most 600 bytes, all of them a text");
        String full = " ".repeat(588) + "sign 9 5 49;";
        fits(LIST, full);
        is("its last line", table("0 " + full).reading(0, 0, 2), 49);
        fault(LIST, " ".repeat(599) + "?", 1, 599);
        fault(LIST, "\n".repeat(589) + "sign 9 5 49", 1, 600);
        fault(ROW, " ".repeat(600), 4, 600);
        fault(ROW, " ".repeat(598) + "10", 2, 598);
        fits(ROW, " ".repeat(599) + "9");
        fault(MEAL, " ".repeat(593) + "away 4;", 4, 600);
        fits(HOUSE, "never 9;" + " ".repeat(584) + "never 8;");
    }

    private void blanks() {
        sentence("Terms 1", "blanks (10, 32) between");
        for (int b = 0; b < 256; b++) {
            char c = (char) b;
            boolean blank = b == 10 || b == 32;
            if (c >= '0' && c <= '9') {
                fault(ROW, "1" + c + "2", 1, 0);
                continue;
            }
            fault(ROW, "1" + c + "2", blank ? 0 : 1, blank ? NONE : 1);
            fault(ROW, c + "2", blank ? 0 : 1, blank ? NONE : 0);
            fault(ROW, "1" + c, blank ? 0 : 1, blank ? NONE : 1);
            fault(ROW, "1 " + c + c, blank ? 0 : 1, blank ? NONE : 2);
        }
        fits(LIST, "\n\n near\n1 \n 2\n;\n \n");
        fits(LIST, "near1 2;near3 4;rule0 0 0plus;sign0 0 0;");
    }

    private void letters() {
        sentence("Terms 1", "words, rows of letters a .. z");
        for (int b = 0; b < 256; b++) {
            char c = (char) b;
            boolean blank = b == 10 || b == 32;
            boolean digit = c >= '0' && c <= '9';
            boolean letter = c >= 'a' && c <= 'z';
            if (c != 'n') {
                fault(LIST, c + "ear 1 2;", 1, blank ? 1 : 0);
            }
            if (c != 'r') {
                fault(LIST, "nea" + c + " 1 2;", 1, 0);
            }
            // A word goes on by a letter alone; a digit begins a number, which goes on.
            if (blank || c == '0') {
                fits(LIST, "near" + c + "1 2;");
            } else {
                fault(LIST, "near" + c + "1 2;", digit ? 2 : 1, letter ? 0 : 4);
            }
            if (!blank && c != ';') {
                fault(LIST, "near 1 2" + c + " ;", digit ? 2 : 1, digit ? 7 : 8);
            }
        }
        for (String line : LINES) {
            String word = line.substring(2, line.indexOf(' ', 2));
            int sort = line.charAt(0) - '0';
            String rest = line.substring(2 + word.length());
            fault(sort, word + "s" + rest, 1, 0);
            fault(sort, word.substring(0, word.length() - 1) + rest, 1, 0);
            fault(sort, word.substring(1) + rest, 1, 0);
            fault(sort, word.toUpperCase() + rest, 1, 0);
            fault(sort, word + word + rest, 1, 0);
        }
    }

    private void digits() {
        sentence("Terms 1", "NUMBERS, 1 or 2 digits (a longer row of digits is no token)");
        fits(ROW, "0");
        fits(ROW, "00");
        fault(ROW, "000", 1, 0);
        fault(ROW, "001 2", 1, 0);
        fault(ROW, "1 2 0003", 1, 4);
        fault(ROW, "1".repeat(600), 1, 0);
        fault(ROW, "99", 2, 0);
        fault(LIST, "near 1 002;", 1, 7);
        fault(LIST, "near 001 2;", 1, 5);
        fault(LIST, "sign 0 0 049;", 1, 9);
        fault(LIST, "123", 1, 0);
        fault(MEAL, "seats 006;", 1, 6);
        fault(HOUSE, "most 1 009;", 1, 7);
        // It is the first with which no text goes on, also behind a number that can't be.
        fault(ROW, "10 123", 1, 3);
        fault(ROW, "123 x", 1, 0);
        fault(ROW, "x 123", 1, 0);
    }

    private void longestTokens() {
        sentence("Terms 1", "TOKENS, as long as they go; ; one byte");
        is("12 is one number", table("1 01 02").row(0, NONE), 2);
        fault(ROW, "12", 2, 0);
        fault(LIST, "near 12;", 1, 7);
        fault(LIST, "nearnear 1 2;", 1, 0);
        fault(LIST, "rule 0 0 0 headtail;", 1, 11);
        fault(LIST, "near 1 2;;", 1, 9);
        fault(LIST, ";", 1, 0);
        fits(LIST, "near 1 2;near 3 4;");
        fits(MEAL, "away 0;away 1;");
    }

    private void linesCutShort() {
        sentence("Terms 1", "1 the first byte or token with which no text goes on: the end's place");
        for (String line : LINES) {
            int sort = line.charAt(0) - '0';
            String[] tokens = line.substring(2).split(" ");
            StringBuilder text = new StringBuilder();
            for (int i = 0; i + 1 < tokens.length; i++) {
                text.append(i == 0 ? "" : " ").append(tokens[i]);
                fault(sort, text.toString(), 1, text.length());
                fault(sort, text + "  \n", 1, text.length() + 3);
                fault(sort, line.substring(2) + text, 1, line.length() - 2 + text.length());
            }
            fits(sort, line.substring(2));
            fits(sort, line.substring(2) + line.substring(2));
        }
    }

    private void linesWithMore() {
        sentence("Terms 1", "1 the first byte or token with which no text goes on: its first byte");
        String[] others = {"x", "head", "near", "1", ";", "?", "Z", "00", "123"};
        for (String line : LINES) {
            int sort = line.charAt(0) - '0';
            String[] tokens = line.substring(2).split(" ");
            for (int i = 0; i < tokens.length; i++) {
                StringBuilder before = new StringBuilder();
                for (int k = 0; k < i; k++) {
                    before.append(tokens[k]).append(" ");
                }
                for (String other : others) {
                    if (!goesOn(sort, tokens, i, other)) {
                        fault(sort, before + other + " 0 0 0;", 1, before.length());
                    }
                }
            }
        }
    }

    /** Whether another token may stand in the place of the i-th of a line, as far as one can see there. */
    private static boolean goesOn(int sort, String[] tokens, int i, String other) {
        boolean number = other.equals("1") || other.equals("00");
        if (tokens[i].equals(";")) {
            return other.equals(";");
        }
        if (Character.isDigit(tokens[i].charAt(0))) {
            return number;
        }
        return i == 0 ? sort == LIST && other.equals("near") : other.equals("head");
    }

    private void wordsOfOtherSorts() {
        sentence("Terms 1", "a LIST's text, a ROW's text, a MEAL's text, a HOUSE's text: each has its own lines");
        for (String line : LINES) {
            for (int sort = 0; sort < 4; sort++) {
                if (sort == line.charAt(0) - '0') {
                    fits(sort, line.substring(2));
                } else {
                    fault(sort, line.substring(2), 1, 0);
                }
            }
        }
        for (int sort : new int[] {LIST, MEAL, HOUSE}) {
            fault(sort, "1", 1, 0);
        }
        sentence("Terms 1", "an ACT: HEAD (0), TAIL (1), PLUS (2), LESS (3), NOT (4)");
        String[] acts = {"head", "tail", "plus", "less", "not"};
        for (int act = 0; act < 5; act++) {
            fault(LIST, acts[act] + ";", 1, 0);
            is(acts[act], table("0 rule 0 0 0 " + acts[act] + ";").rule(0, 0, 3), act);
        }
        for (String act : new String[] {"heads", "tai", "more", "nots", "no", "rule", "a"}) {
            fault(LIST, "rule 0 0 0 " + act + ";", 1, 11);
        }
    }

    private void emptyTexts() {
        sentence("Terms 1", "{..}: a text without any line");
        for (String text : new String[] {"", " ", "\n", " \n".repeat(300)}) {
            fits(LIST, text);
            fault(ROW, text, 4, text.length());
            fits(MEAL, text);
            fits(HOUSE, text);
        }
        SilentTable x = table("0 ", "2 ", "3 ");
        is("rules", x.list(0, 0), 0);
        is("readings", x.list(0, 1), 0);
        is("deeds", x.meal(0, 1), 0);
        is("laws", x.law(0, NONE, 0), 0);
    }

    private void laterOnes() {
        sentence("Terms 1", "Later ones strike (seats)");
        is("seats", table("2 seats 6;seats 1;seats 2;").meal(0, 0), 2);
        fits(MEAL, "seats 1;says 5 0;seats 6;");
        fault(MEAL, "seats 6;says 5 0;seats 5;", 4, 25);
        sentence("Terms 1", "but RULES, READINGS, NEAR, DEEDS, LAWS, which are further ones");
        SilentTable x = table("0 rule 0 0 0 plus;rule 0 0 0 plus;sign 0 0 1;sign 0 0 1;sign 0 0 1;near 0 1;near 0 2;",
            "2 away 0;away 0;look 0 1;look 0 1;", "3 seen 0;seen 0;seen 0;");
        is("rules", x.list(0, 0), 2);
        is("readings", x.list(0, 1), 3);
        is("near", x.list(0, 10), 6);
        is("deeds", x.meal(0, 1), 4);
        is("laws", x.law(0, NONE, 0), 3);
        sentence("Terms 1", "(NEAR told twice is once)");
        SilentTable y = table("0 near 0 1;near 0 1;near 0 1;near 1 0;", "1 0");
        is("near", y.list(0, 10), 2);
        is("rows worn", y.worn(0, 0, 1), 2);
        // 1103527590 >>> 16 is 16838: remainder 0 by 2, but 2 by 4.
        is("drawn", y.drawn(0, 0, 1, 1, 0), 0);
    }

    private void faultOneFirst() {
        sentence("Terms 1", "1 .. If there is none, the first by place");
        fault(LIST, "rule 6 6 6 plus;near 1 1;" + "sign 0 0 0;".repeat(17) + "x", 1, 25 + 17 * 11);
        fault(LIST, "rule 6 0 0 plus", 1, 15);
        fault(ROW, "10 " + "9 ".repeat(13) + ";", 1, 29);
        fault(MEAL, "seats 0;look 1 1;says 5 0;away", 1, 30);
        fault(HOUSE, "never 10;" + "seen 0;".repeat(9) + "seen", 1, 9 + 63 + 4);
        fault(LIST, "near 10 x;", 1, 8);
    }

    private void firstByPlace() {
        sentence("Terms 1", "the first by place, of one place the least");
        fault(LIST, "rule 6 7 8 plus;", 2, 5);
        fault(LIST, "rule 5 7 8 plus;", 2, 7);
        fault(LIST, "sign 9 5 50;near 1 1;", 2, 9);
        fault(LIST, "rule 0 0 0 not;".repeat(10) + "near 1 1;rule 0 0 0 not;", 2, 157);
        fault(LIST, "rule 0 0 0 not;".repeat(11) + "near 1 1;", 3, 150);
        fault(LIST, "sign 0 0 0;".repeat(17) + "rule 0 0 0 not;".repeat(11), 3, 176);
        fault(ROW, "9 ".repeat(12) + "10", 2, 24);
        fault(ROW, "9 ".repeat(12) + "9 10", 3, 24);
        fault(ROW, "9 ".repeat(11) + "10 9", 2, 22);
        sentence("Terms 1", "a line with such a NUMBER tells its RULE, READING, DEED, LAW, SIGN all the same");
        fault(LIST, "rule 6 0 0 not;" + "rule 0 0 0 not;".repeat(10), 2, 5);
        fault(LIST, "rule 0 0 0 not;".repeat(10) + "rule 6 0 0 not;", 3, 150);
        fault(LIST, "sign 0 0 0;".repeat(16) + "sign 10 0 0;", 3, 176);
        fault(MEAL, "away 0;".repeat(50) + "away 6;", 3, 350);
        fault(HOUSE, "seen 0;".repeat(8) + "seen 10;", 3, 56);
        fault(ROW, "10", 2, 0);
        fault(MEAL, "away 6;", 2, 5);
    }

    private void faultFourIsLast() {
        sentence("Terms 1", "If there is none of these, at the end's place: 4");
        fault(MEAL, "seats 1;says 3 0;away 6;", 2, 22);
        fault(MEAL, "seats 1;" + "says 3 0;".repeat(51), 3, 8 + 450);
        fault(MEAL, "seats 1;says 3 0;", 4, 17);
        fault(MEAL, "seats 1;says 3 0; \n ", 4, 20);
        fault(ROW, "\n", 4, 1);
    }

    private void faultFour() {
        sentence("Terms 1", "4 of a MEAL a SEAT that was told of and is not there");
        for (int seats = 1; seats <= 6; seats++) {
            for (int seat = 0; seat <= 5; seat++) {
                String start = "seats " + seats + ";";
                int what = seat < seats ? 0 : 4;
                int other = seat == 0 ? 1 : 0;
                int both = Math.max(seat, other) < seats ? 0 : 4;
                fault(MEAL, start + "away " + seat + ";", what, what == 0 ? NONE : 15);
                fault(MEAL, start + "says " + seat + " 9;", what, what == 0 ? NONE : 17);
                fault(MEAL, start + "look " + seat + " " + other + ";", both, both == 0 ? NONE : 17);
                fault(MEAL, start + "look " + other + " " + seat + ";", both, both == 0 ? NONE : 17);
                fault(MEAL, "away " + seat + ";" + start, what, what == 0 ? NONE : 15);
            }
        }
    }

    private void seatsNotThere() {
        sentence("Terms 1", "of a MEAL a SEAT: a SIGN is none, nor is a number of SEATS");
        fits(MEAL, "seats 1;says 0 9;");
        fits(MEAL, "seats 6;seats 1;");
        fault(MEAL, "seats 6;away 5;away 0;seats 1;", 4, 30);
    }

    private void newObject() {
        sentence("Promise 1", "No LISTS, ROWS, MEALS, HOUSES; no images");
        SilentTable x = new SilentTable();
        for (int sort = 0; sort < 4; sort++) {
            is("count of " + sort, x.count(sort), 0);
            is("text in the place of none", x.text(sort, 0), MISSING);
        }
        for (int k = 0; k < 3; k++) {
            is("again of " + k, x.again(k), false);
        }
        is("fault", x.fault(0), 0);
        is("its place", x.fault(1), NONE);
        is("the tape", x.end(1), NONE);
        is("the tape, empty", x.end(0), 0);
        is("the first feed", new SilentTable().feed(0, 0, 0, 0, 0), 20);
    }

    private void newObjectAnswers() {
        sentence("Promise 1", "No LISTS, ROWS, MEALS, HOUSES: every call about one is refused");
        SilentTable x = new SilentTable();
        is("list", x.list(0, 0), NONE);
        is("rule", x.rule(0, 0, 0), NONE);
        is("reading", x.reading(0, 0, 0), NONE);
        is("row", x.row(0, NONE), MISSING);
        is("trees", x.trees(0, 0, 0, 0, 0), NONE);
        is("means", x.means(0, 0, NONE), MISSING);
        is("ways", x.ways(0, 0, 0), NONE);
        is("tree", x.tree(0, 0, 0, 0), MISSING);
        is("could", x.could(0, 0, 0, NONE), MISSING);
        is("worn", x.worn(0, 0, 0), NONE);
        is("lasts", x.lasts(0, 0), NONE);
        is("brief", x.brief(0, 0, NONE, 0), NONE);
        is("apart", x.apart(0, 0, 0), NONE);
        is("hole", x.hole(0, 0, 0), NONE);
        is("idle", x.idle(0, 0), NONE);
        is("doubt", x.doubt(0, 0, 0), NONE);
        is("meal", x.meal(0, 0), NONE);
        is("deed", x.deed(0, 0, 0), MISSING);
        is("looks", x.looks(0, 0, 0), MISSING);
        is("caught", x.caught(0, NONE, 0, NONE), MISSING);
        is("knows", x.knows(0, 0, NONE, 0, NONE), MISSING);
        is("sure", x.sure(0, 0, 0), NONE);
        is("passed", x.passed(0, 0, 1), NONE);
        is("reaches", x.reaches(0, 0, 0, 0, 1), false);
        is("watch", x.watch(0, 0, true), NONE);
        is("law", x.law(0, NONE, 0), MISSING);
        is("breaks", x.breaks(0, 0, 0), NONE);
        is("sins", x.sins(0, 0, NONE), NONE);
        is("mildest", x.mildest(0, 0), NONE);
        is("drawn", x.drawn(0, 0, 0, 0, 0), NONE);
        is("all", x.all(0, 1, 0), NONE);
        is("becomes", x.becomes(0, 0, 0), NONE);
        is("can", x.can(0, 0, 0, 0), NONE);
        is("asks", x.asks(0, 0, 0, 0, 1, 0), NONE);
        is("hears", x.hears(0, 0), MISSING);
        is("like", x.like(0, 0, 0), NONE);
    }

    private void feed() {
        sentence("Promise 2", "twenty bytes come behind it, of each number the highest first: how many it has");
        for (int at = 0; at < 20; at++) {
            // Blanks but for one byte, which is told by its place; 255 is no digit, letter or blank.
            int[] words = {0x20202020, 0x0a0a0a0a, 0x20202020, 0x20202020, 0x0a202020};
            words[at / 4] |= 255 << (24 - at % 4 * 8);
            SilentTable x = new SilentTable();
            is("feed", x.feed(words[0], words[1], words[2], words[3], words[4]), 20);
            is("text", x.text(ROW, NONE), NONE);
            is("fault", x.fault(0), 1);
            is("its place", x.fault(1), at);
        }
        SilentTable y = new SilentTable();
        is("feed", y.feed(0x31203220, 0x33203420, 0x35203620, 0x37203820, 0x39203020), 20);
        is("feed", y.feed(0x31203220, 0x20202020, 0x20202020, 0x20202020, 0x20202020), 40);
        is("text", y.text(ROW, NONE), 0);
        for (int k = 0; k < 12; k++) {
            is("sign " + k, y.row(0, k), (k + 1) % 10);
        }
        is("feed", y.feed(MIN, MAX, -1, 0, 1), 20);
        is("feed", y.feed(MIN, MAX, -1, 0, 1), 40);
    }

    private void feedFull() {
        sentence("Promise 2", "NONE, and nothing comes, if there would be more than 600");
        for (int size = 561; size <= 600; size++) {
            SilentTable x = new SilentTable();
            Due.put(x, " ".repeat(size - 1) + "7");
            boolean fits = size <= 580;
            is("feed behind " + size, x.feed(0x20202020, 0x20202020, 0x20202020, 0x20202020, 0x20202038), fits ? size + 20 : NONE);
            int there = fits ? size + 20 : size;
            is("no more", x.end(there + 1), NONE);
            is("all of it", x.end(there), there);
            is("text", x.text(ROW, NONE), 0);
            is("its signs", x.row(0, NONE), fits ? 2 : 1);
            is("its last sign", x.row(0, fits ? 1 : 0), fits ? 8 : 7);
        }
    }

    private void end() {
        sentence("Promise 3", "The tape has its first n bytes alone: n");
        for (int n = 0; n <= 20; n++) {
            SilentTable x = new SilentTable();
            x.feed(0x31203220, 0x33203420, 0x35203620, 0x37203820, 0x39203020);
            is("end(" + n + ")", x.end(n), n);
            is("no more", x.end(n + 1), NONE);
            is("feed behind it", x.feed(0x20202020, 0x20202020, 0x20202020, 0x20202020, 0x20202038), n + 20);
            is("text", x.text(ROW, NONE), 0);
            is("its signs", x.row(0, NONE), (n + 1) / 2 + 1);
        }
        sentence("Promise 3", "its first n bytes alone: what was behind them is no part of a token");
        String text = " ".repeat(580) + "near 1 2;never 123 4";
        int[] lengths = {581, 584, 586, 588, 589, 590, 595, 597, 598, 599, 600};
        int[][] faults = {{1, 580}, {1, 584}, {1, 586}, {1, 588}, {0, NONE}, {1, 589}, {1, 589}, {1, 589}, {1, 589}, {1, 589}, {1, 589}};
        for (int i = 0; i < lengths.length; i++) {
            SilentTable x = new SilentTable();
            Due.put(x, text);
            is("end", x.end(lengths[i]), lengths[i]);
            is("text of " + lengths[i], x.text(LIST, NONE), faults[i][0] == 0 ? 0 : NONE);
            is("fault of " + lengths[i], x.fault(0), faults[i][0]);
            is("place of " + lengths[i], x.fault(1), faults[i][1]);
        }
        SilentTable words = new SilentTable();
        Due.put(words, "nearly");
        is("end", words.end(4), 4);
        is("text", words.text(LIST, NONE), NONE);
        is("near goes on", words.fault(1), 4);
        is("near, and nothing behind the tape", Due.tell(words, LIST, " ".repeat(596) + "near"), NONE);
        is("near goes on", words.fault(1), 600);
        SilentTable digits = new SilentTable();
        Due.put(digits, "1".repeat(600));
        is("end", digits.end(1), 1);
        is("one digit", digits.text(ROW, NONE), 0);
        Due.put(digits, "1".repeat(600));
        is("end", digits.end(2), 2);
        is("two digits", digits.text(ROW, NONE) + digits.fault(0), 1);
        sentence("Promise 3", "NONE if it has not so many, or n is below 0");
        for (int size : new int[] {0, 1, 20, 599, 600}) {
            SilentTable x = new SilentTable();
            Due.put(x, " ".repeat(Math.max(0, size - 1)) + (size == 0 ? "" : "7"));
            refuses("end at " + size, NONE, x::end, -1, -2, MIN, size + 1, size + 20, 601, MAX);
            is("it has them all still", x.end(size), size);
            is("text", x.text(ROW, NONE), size == 0 ? NONE : 0);
        }
    }

    private void text() {
        for (int sort = 0; sort < 4; sort++) {
            int one = sort;
            SilentTable x = new SilentTable();
            sentence("Promise 4", "a further one (at NONE): its number; sort " + sort + ", at most " + MOST[sort]);
            for (int n = 0; n < MOST[sort]; n++) {
                is("further", Due.tell(x, sort, PLAIN[sort]), n);
                is("count", x.count(sort), n + 1);
                is("fault", x.fault(0), 0);
                is("tape", x.end(1), NONE);
            }
            is("one too many", Due.tell(x, sort, PLAIN[sort]), MISSING);
            is("count", x.count(sort), MOST[sort]);
            sentence("Promise 4", "or in the place of one: its number; sort " + sort);
            for (int n = 0; n < MOST[sort]; n++) {
                instead(x, sort, n, PLAIN[sort]);
                is("count", x.count(sort), MOST[sort]);
            }
            sentence("Promise 4", "-2: there is none such; sort " + sort);
            takes("text at", 0, MOST[sort] - 1, MISSING, at -> {
                Due.put(x, PLAIN[one]);
                return x.text(one, at);
            });
            SilentTable y = table(sort + " " + PLAIN[sort]);
            Due.put(y, PLAIN[sort]);
            is("place 1 of one", y.text(sort, 1), MISSING);
            is("count", y.count(sort), 1);
        }
        sentence("Promise 4", "in the place of one: that one is told anew, the others stay");
        SilentTable x = table("1 0", "1 1", "1 2");
        instead(x, ROW, 1, "9 8");
        is("row 0", x.row(0, 0), 0);
        is("row 1", x.row(1, 1), 8);
        is("row 2", x.row(2, 0), 2);
        sentence("Promise 4", "a text of a sort: those of other sorts stay");
        SilentTable y = table("0 sign 7 0 0;", "0 sign 8 0 0;", "1 7", "1 8", "2 says 0 7;", "2 says 0 8;", "3 seen 7;", "3 seen 8;");
        for (int sort = 0; sort < 4; sort++) {
            instead(y, sort, 0, PLAIN[sort]);
            for (int n = 0; n < 2; n++) {
                is("list " + n, y.reading(n, 0, 0), n == 0 ? 0 : 8);
                is("row " + n, y.row(n, 0), n == 0 ? sort < ROW ? 7 : 0 : 8);
                is("meal " + n, y.deed(n, 0, 2), n == 0 ? sort < MEAL ? 7 : 0 : 8);
                is("house " + n, y.law(n, 0, 1), n == 0 ? sort < HOUSE ? 7 : 0 : 8);
            }
        }
    }

    private void textRefused() {
        sentence("Promise 4", "-2: no such sort");
        SilentTable x = table("0 ", "1 1", "2 ", "3 ");
        for (int at : new int[] {NONE, 0}) {
            refuses("sort, at " + at, MISSING, sort -> {
                Due.put(x, "");
                return x.text(sort, at);
            }, -1, -2, 4, 5, 1 << 30, MAX, MIN);
        }
        sentence("Promise 4", "(no text is read then, FAULT 0)");
        int[][] refused = {{4, NONE}, {-1, NONE}, {LIST, 1}, {ROW, 1}, {MEAL, -2}, {HOUSE, MAX}};
        for (int[] call : refused) {
            is("a fault", Due.tell(x, ROW, "?"), NONE);
            is("told", x.fault(0), 1);
            Due.put(x, "? not a text");
            is("text", x.text(call[0], call[1]), MISSING);
            is("fault", x.fault(0), 0);
            is("its place", x.fault(1), NONE);
        }
        sentence("Promise 4", "The tape is taken (and is empty then)");
        for (int[] call : refused) {
            Due.put(x, "1 2");
            is("text", x.text(call[0], call[1]), MISSING);
            is("tape", x.end(1), NONE);
            is("feed", x.feed(0, 0, 0, 0, 0), 20);
        }
        Due.put(x, "1 2");
        is("text", x.text(ROW, NONE), 1);
        is("tape behind a text", x.end(1), NONE);
        Due.put(x, "1 x 2");
        is("text", x.text(ROW, NONE), NONE);
        is("tape behind a fault", x.end(1), NONE);
        is("feed behind a fault", x.feed(0, 0, 0, 0, 0), 20);
        Due.put(x, " ".repeat(600));
        is("text", x.text(LIST, NONE), 1);
        is("feed behind 600", x.feed(0, 0, 0, 0, 0), 20);
        is("text without a tape", x.end(0) + x.text(LIST, 1), 1);
    }

    private void textFaulty() {
        sentence("Promise 4", "NONE: a FAULT (nothing is told by it)");
        String[] faulty = {"sign 9 0 9;near 1 1;", "9 9 10", "says 1 1;look 1 1;", "seen 9;seen 10;"};
        for (int sort = 0; sort < 4; sort++) {
            SilentTable x = new SilentTable();
            is("further", Due.tell(x, sort, faulty[sort]), NONE);
            is("count", x.count(sort), 0);
            is("first", Due.tell(x, sort, PLAIN[sort]), 0);
            Due.put(x, faulty[sort]);
            is("in its place", x.text(sort, 0), NONE);
            is("count", x.count(sort), 1);
            is("the fault", x.fault(0), 2);
            if (sort == LIST) {
                is("the list stays", x.reading(0, 0, 2), 1);
                is("its near, too", x.list(0, 11), 0);
            } else if (sort == ROW) {
                is("the row stays", x.row(0, 0) + x.row(0, NONE), 1);
            } else if (sort == MEAL) {
                is("the meal stays", x.deed(0, 0, 1) + x.meal(0, 1), 1);
            } else {
                is("the house stays", x.law(0, 0, 0) + x.law(0, NONE, 0), 1);
            }
            is("further behind it", Due.tell(x, sort, PLAIN[sort]), 1);
            is("no fault now", x.fault(0), 0);
        }
    }

    private void fault() {
        sentence("Promise 5", "Of the latest text(), what 0: the FAULT, 0 without, 1: its place, NONE without");
        SilentTable x = new SilentTable();
        String[] texts = {"", "x", "", "9 99", "9", "9 ".repeat(13), "9"};
        int[][] want = {{4, 0}, {1, 0}, {4, 0}, {2, 2}, {0, NONE}, {3, 24}, {0, NONE}};
        for (int i = 0; i < texts.length; i++) {
            Due.tell(x, ROW, texts[i]);
            x.feed(0, 0, 0, 0, 0);
            x.end(1);
            x.count(0);
            x.row(0, 0);
            is("fault", x.fault(0), want[i][0]);
            is("its place", x.fault(1), want[i][1]);
        }
        sentence("Promise 5", "NONE for another what");
        is("a fault", Due.tell(x, ROW, "1 x"), NONE);
        takesJust("fault", NONE, x::fault, 0, 1);
        is("no fault", Due.tell(x, ROW, "1"), 2);
        takesJust("fault", NONE, x::fault, 0);
    }

    private void list() {
        SilentTable x = table("0 rule 0 0 0 not;sign 0 0 0;near 0 9;", "0 ");
        sentence("Promise 6", "NONE: there is none such");
        takes("list", 0, 1, NONE, l -> x.list(l, 0));
        takes("list, near", 0, 1, NONE, l -> x.list(l, 19));
        sentence("Promise 6", "10 + s: NEAR of SIGN s; NONE for another what");
        int[] taken = {0, 1, 10, 11, 12, 13, 14, 15, 16, 17, 18, 19};
        takesJust("what", NONE, what -> x.list(0, what), taken);
        takesJust("what of an empty one", NONE, what -> x.list(1, what), taken);
    }

    private void rule() {
        SilentTable x = table("0 " + "rule 5 5 5 not;".repeat(10), "0 rule 0 0 0 head;");
        sentence("Promise 7", "NONE: there is none such (of either)");
        takes("list", 0, 1, NONE, l -> x.rule(l, 0, 0));
        takes("rule", 0, 9, NONE, k -> x.rule(0, k, 0));
        takes("rule of one", 0, 0, NONE, k -> x.rule(1, k, 0));
        instead(x, LIST, 1, "sign 0 0 0;");
        is("rule of none", x.rule(1, 0, 0), NONE);
        sentence("Promise 7", "NONE for another what");
        takesJust("what of the first", NONE, what -> x.rule(0, 0, what), 0, 1, 2, 3);
        takesJust("what of the last", NONE, what -> x.rule(0, 9, what), 0, 1, 2, 3);
    }

    private void reading() {
        SilentTable x = table("0 " + "sign 9 5 49;".repeat(16), "0 sign 0 0 0;");
        sentence("Promise 8", "NONE: there is none such (of either)");
        takes("list", 0, 1, NONE, l -> x.reading(l, 0, 0));
        takes("reading", 0, 15, NONE, k -> x.reading(0, k, 0));
        takes("reading of one", 0, 0, NONE, k -> x.reading(1, k, 0));
        instead(x, LIST, 1, "rule 0 0 0 head;");
        is("reading of none", x.reading(1, 0, 0), NONE);
        sentence("Promise 8", "NONE for another what");
        takesJust("what of the first", NONE, what -> x.reading(0, 0, what), 0, 1, 2);
        takesJust("what of the last", NONE, what -> x.reading(0, 15, what), 0, 1, 2);
    }

    private void row() {
        SilentTable x = table("1 " + "9 ".repeat(12), "1 0", "1 1 2");
        sentence("Promise 9", "How many SIGNS a ROW has (k NONE), or the k-th one. -2: there is none such (of either)");
        takes("row", 0, 2, MISSING, r -> x.row(r, NONE));
        takes("row, its first", 0, 2, MISSING, r -> x.row(r, 0));
        takes("sign of twelve", NONE, 11, MISSING, k -> x.row(0, k));
        takes("sign of one", NONE, 0, MISSING, k -> x.row(1, k));
        takes("sign of two", NONE, 1, MISSING, k -> x.row(2, k));
        is("twelve", x.row(0, NONE), 12);
        is("one", x.row(1, NONE), 1);
    }

    private void count() {
        sentence("Promise 42", "How many there are of a sort: none, one, as many as may be");
        SilentTable x = new SilentTable();
        for (int sort = 0; sort < 4; sort++) {
            for (int n = 0; n <= MOST[sort]; n++) {
                is("count of " + sort, x.count(sort), n);
                Due.tell(x, sort, PLAIN[sort]);
            }
            is("count of " + sort, x.count(sort), MOST[sort]);
        }
        sentence("Promise 42", "-2 for another one");
        takesJust("count", MISSING, x::count, 0, 1, 2, 3);
    }

    private void image() {
        sentence("Promise 43", "Image k (0 .. 2): true; false for another k");
        SilentTable x = new SilentTable();
        takesJust("image", 0, k -> x.image(k) ? 1 : 0, 0, 1, 2);
        sentence("Promise 43", "is all that is told (the tape, the FAULT, too), as it is now: an empty one");
        SilentTable y = new SilentTable();
        is("image", y.image(1), true);
        for (int sort = 0; sort < 4; sort++) {
            for (int n = 0; n < MOST[sort]; n++) {
                Due.tell(y, sort, PLAIN[sort]);
            }
        }
        is("a fault", Due.tell(y, ROW, "?"), MISSING);
        Due.put(y, "1 2");
        is("again", y.again(1), true);
        for (int sort = 0; sort < 4; sort++) {
            is("count of " + sort, y.count(sort), 0);
        }
        is("tape", y.end(1), NONE);
        is("fault", y.fault(0), 0);
        is("place", y.fault(1), NONE);
        is("list", y.list(0, 0), NONE);
        is("row", y.row(0, NONE), MISSING);
        is("meal", y.meal(0, 0), NONE);
        is("law", y.law(0, NONE, 0), MISSING);
        is("others are none still", y.again(0), false);
        is("others are none still", y.again(2), false);
    }

    private void again() {
        sentence("Promise 44", "All that is as image k has it: a full one, with the tape and the FAULT");
        SilentTable x = new SilentTable();
        for (int sort = 0; sort < 4; sort++) {
            for (int n = 0; n < MOST[sort]; n++) {
                Due.tell(x, sort, PLAIN[sort]);
            }
        }
        Due.put(x, "1 x");
        is("a fault", x.text(ROW, 2), NONE);
        Due.put(x, " ".repeat(599) + "7");
        is("image", x.image(2), true);
        for (int at = 0; at < 2; at++) {
            instead(x, LIST, at, "");
            instead(x, ROW, at + 1, "9 9");
            instead(x, MEAL, at, "");
            instead(x, HOUSE, at, "");
        }
        for (int n = 0; n < 2; n++) {
            is("again", x.again(2), true);
            is("fault", x.fault(0), 1);
            is("place", x.fault(1), 2);
            for (int at = 0; at < 2; at++) {
                is("list", x.list(at, 1), 1);
                is("row", x.row(at + 1, NONE), 1);
                is("meal", x.meal(at, 1), 1);
                is("house", x.law(at, NONE, 0), 1);
            }
            is("full", x.feed(0, 0, 0, 0, 0), NONE);
            is("its tape", x.text(ROW, 0), 0);
            is("the last byte of it", x.row(0, 0), 7);
        }
        sentence("Promise 44", "as image k has it: a later image in its place strikes it");
        is("image", x.image(2), true);
        instead(x, ROW, 0, "5");
        is("again", x.again(2), true);
        is("row", x.row(0, 0), 7);
        is("tape", x.end(1), NONE);
        sentence("Promise 44", "false if there is none such");
        takesJust("again", 0, k -> x.again(k) ? 1 : 0, 2);
        instead(x, ROW, 0, "4");
        is("again of none", x.again(0), false);
        is("nothing came of it", x.row(0, 0), 4);
        is("image of none", x.image(3), false);
        is("again of none", x.again(3), false);
        is("images 0 and 1", x.image(0) && x.image(1), true);
        takesJust("again", 0, k -> x.again(k) ? 1 : 0, 0, 1, 2);
    }
}
