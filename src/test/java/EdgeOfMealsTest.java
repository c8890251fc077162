/** The edges of Terms 4 and 5 and of promises 22 to 34, 39 and 40: meals, who saw and knows what, houses. */
public final class EdgeOfMealsTest extends Edges {
    private static final String SUMS = "rule 0 0 0 plus;sign 0 0 1;sign 1 0 2;sign 2 0 3;sign 2 0 4;near 1 2;";
    private static final String CHAIN =
        "near 0 1;near 1 2;near 2 3;near 3 4;near 4 5;near 5 6;near 6 7;near 7 8;near 8 9;";
    /** A request goes from 0 on, seat by seat. */
    private static final String LINE = "seats 6;look 1 0;look 2 1;look 3 2;look 4 3;look 5 4;";

    public static void main(String[] args) {
        EdgeOfMealsTest t = new EdgeOfMealsTest();
        t.nobodyAtFirst();
        t.whoSaw();
        t.secret();
        t.meal();
        t.deed();
        t.looks();
        t.caught();
        t.caughtRefused();
        t.knows();
        t.knowsRefused();
        t.sure();
        t.passed();
        t.passedRefused();
        t.reaches();
        t.watch();
        t.law();
        t.neverAndMost();
        t.order();
        t.pair();
        t.hiddenAndSeen();
        t.breaks();
        t.sins();
        t.mildest();
        t.asks();
        t.loudest();
        t.blindAndEyes();
        t.hears();
        t.close("EdgeOfMealsTest");
    }

    private void nobodyAtFirst() {
        sentence("Terms 4", "at first nobody looks at anybody");
        SilentTable x = table("2 seats 6;says 0 0;", "2 ");
        for (int seat = 0; seat < 6; seat++) {
            is("at first", x.looks(0, 0, seat), NONE);
            is("behind a sign", x.looks(0, 1, seat), NONE);
        }
        is("nobody saw", x.deed(0, 0, 3), 0);
        is("without deeds", x.looks(1, 0, 3), NONE);
        sentence("Terms 4", "look: from then on he looks at that one alone; away: at nobody");
        SilentTable y = table("2 seats 6;look 5 0;look 5 4;away 5;away 5;away 4;look 5 0;look 0 5;");
        int[] want = {NONE, 0, 4, NONE, NONE, NONE, 0, 0};
        for (int n = 0; n < want.length; n++) {
            is("5 behind " + n, y.looks(0, n, 5), want[n]);
            is("0 behind " + n, y.looks(0, n, 0), n < 7 ? NONE : 5);
            is("4 behind " + n, y.looks(0, n, 4), NONE);
        }
    }

    private void whoSaw() {
        sentence("Terms 4", "SAW: who looks at him then: nobody, one, all others");
        SilentTable x = table("2 seats 6;says 0 0;look 1 0;says 0 0;look 2 0;look 3 0;look 4 0;look 5 0;says 0 0;says 1 0;away 5;says 0 0;look 0 5;says 5 0;");
        is("nobody", x.deed(0, 0, 3), 0);
        is("one", x.deed(0, 2, 3), 2);
        is("all others", x.deed(0, 7, 3), 62);
        is("another one's", x.deed(0, 8, 3), 0);
        is("but the one that looks away", x.deed(0, 10, 3), 30);
        is("the abbot", x.deed(0, 12, 3), 1);
    }

    private void secret() {
        sentence("Terms 4", "SECRET: SIGNS nobody SAW: all, none");
        is("all", table("2 " + "says 0 0;".repeat(50)).meal(0, 3), 50);
        is("none", table("2 look 1 0;" + "says 0 0;".repeat(49)).meal(0, 3), 0);
        is("one", table("2 says 0 0;look 1 0;says 0 0;").meal(0, 3), 1);
        is("without signs", table("2 look 1 0;away 1;").meal(0, 3), 0);
    }

    private void meal() {
        SilentTable x = table("2 seats 6;" + "says 5 9;".repeat(50), "2 ");
        sentence("Promise 22", "what 0: SEATS, 1: DEEDS, 2: how many SIGNS are said, 3: how many are SECRET: most, none");
        is("seats", x.meal(0, 0), 6);
        is("deeds", x.meal(0, 1), 50);
        is("said", x.meal(0, 2), 50);
        is("secret", x.meal(0, 3), 50);
        is("seats at first", x.meal(1, 0), 4);
        is("no deeds", x.meal(1, 1), 0);
        is("none said", x.meal(1, 2), 0);
        is("none secret", x.meal(1, 3), 0);
        is("look and away are not said", table("2 look 0 1;away 0;").meal(0, 2), 0);
        is("said, none of them secret", table("2 look 0 1;" + "says 1 0;".repeat(49)).meal(0, 2), 49);
        sentence("Promise 22", "NONE: there is none such, or for another what");
        takes("meal", 0, 1, NONE, m -> x.meal(m, 0));
        takesJust("what", NONE, what -> x.meal(0, what), 0, 1, 2, 3);
        takesJust("what of an empty one", NONE, what -> x.meal(1, what), 0, 1, 2, 3);
    }

    private void deed() {
        SilentTable x = table("2 seats 6;" + "look 5 0;".repeat(49) + "says 0 09;", "2 look 0 01;away 00;says 0 0;");
        sentence("Promise 23", "1, 2: its numbers as told (NONE without), 3: who SAW it (bits; 0 but of says)");
        is("look", x.deed(1, 0, 0) * 100 + x.deed(1, 0, 1) * 10 + x.deed(1, 0, 2), 1);
        is("away", x.deed(1, 1, 0) * 10 + x.deed(1, 1, 1), 10);
        is("away has no second number", x.deed(1, 1, 2), NONE);
        is("says", x.deed(0, 49, 0) * 100 + x.deed(0, 49, 1) * 10 + x.deed(0, 49, 2), 209);
        is("who saw it", x.deed(0, 49, 3), 32);
        is("of look", x.deed(0, 48, 3), 0);
        is("of away", x.deed(1, 1, 3), 0);
        sentence("Promise 23", "-2: there is none such (of either), or for another what");
        takes("meal", 0, 1, MISSING, m -> x.deed(m, 0, 0));
        takes("k of fifty", 0, 49, MISSING, k -> x.deed(0, k, 0));
        takes("k of three", 0, 2, MISSING, k -> x.deed(1, k, 3));
        takesJust("what of look", MISSING, what -> x.deed(1, 0, what), 0, 1, 2, 3);
        takesJust("what of away", MISSING, what -> x.deed(1, 1, what), 0, 1, 2, 3);
        takesJust("what of says", MISSING, what -> x.deed(0, 49, what), 0, 1, 2, 3);
        instead(x, MEAL, 1, "");
        is("k of none", x.deed(1, 0, 0), MISSING);
    }

    private void looks() {
        SilentTable x = table("2 seats 6;" + "look 5 0;".repeat(50), "2 seats 1;");
        sentence("Promise 24", "behind the first n DEEDS (NONE: nobody): none of them, all of them");
        is("none", x.looks(0, 0, 5), NONE);
        is("one", x.looks(0, 1, 5), 0);
        is("all", x.looks(0, 50, 5), 0);
        sentence("Promise 24", "-2: there is none such (of any)");
        takes("n of fifty", 0, 50, MISSING, n -> x.looks(0, n, 5));
        takes("n of none", 0, 0, MISSING, n -> x.looks(1, n, 0));
        takes("seat of six", 0, 5, MISSING, s -> x.looks(0, 50, s));
        takes("seat of one", 0, 0, MISSING, s -> x.looks(1, 0, s));
        takes("meal", 0, 1, MISSING, m -> x.looks(m, 0, 0));
    }

    private void caught() {
        StringBuilder fifty = new StringBuilder("2 ");
        for (int k = 0; k < 50; k++) {
            fifty.append("says 1 ").append(k % 10).append(";");
        }
        SilentTable x = table(fifty.toString(), "2 says 1 7;look 0 1;says 1 8;away 0;says 1 9;look 0 1;says 1 6;says 2 5;");
        sentence("Promise 25", "SAID of a SEAT: its SIGNS, in order: fifty, none");
        is("fifty", x.caught(0, NONE, 1, NONE), 50);
        for (int k = 0; k < 50; k++) {
            is("the k-th", x.caught(0, NONE, 1, k), k % 10);
        }
        is("none", x.caught(0, NONE, 0, NONE), 0);
        is("the first of none", x.caught(0, NONE, 0, 0), MISSING);
        sentence("Promise 25", "CAUGHT by one of another one: those SIGNS of his that the first one SAW: some, none");
        is("some", x.caught(1, 0, 1, NONE), 2);
        is("the first", x.caught(1, 0, 1, 0), 8);
        is("the last", x.caught(1, 0, 1, 1), 6);
        is("none", x.caught(1, 2, 1, NONE), 0);
        is("none of another one", x.caught(1, 0, 2, NONE), 0);
        instead(x, MEAL, 1, "look 0 1;" + "says 1 3;".repeat(49));
        is("all", x.caught(1, 0, 1, NONE), 49);
        is("the last of all", x.caught(1, 0, 1, 48), 3);
    }

    private void caughtRefused() {
        SilentTable x = table("2 seats 6;look 0 5;" + "says 5 3;".repeat(49), "2 seats 1;says 0 0;");
        sentence("Promise 25", "-2: there is none such (of any)");
        takes("k of said", NONE, 48, MISSING, k -> x.caught(0, NONE, 5, k));
        takes("k of caught", NONE, 48, MISSING, k -> x.caught(0, 0, 5, k));
        takes("k of none", NONE, NONE, MISSING, k -> x.caught(0, 1, 5, k));
        takes("by", NONE, 4, MISSING, by -> x.caught(0, by, 5, NONE));
        takes("by, to the last seat", NONE, 5, MISSING, by -> x.caught(0, by, 3, NONE));
        takes("seat", 0, 5, MISSING, seat -> x.caught(0, NONE, seat, NONE));
        takes("seat of one", 0, 0, MISSING, seat -> x.caught(1, NONE, seat, NONE));
        takes("meal", 0, 1, MISSING, m -> x.caught(m, NONE, 0, NONE));
        sentence("Promise 25", "-2: both are one");
        for (int seat = 0; seat < 6; seat++) {
            is("both are " + seat, x.caught(0, seat, seat, NONE), MISSING);
        }
        is("both are the only one", x.caught(1, 0, 0, NONE), MISSING);
        is("both are nobody", x.caught(0, NONE, NONE, NONE), MISSING);
    }

    private void knows() {
        String twelve = "look 1 0;" + "says 0 0;".repeat(12);
        SilentTable x = table("0 rule 0 0 0 head;sign 0 0 5;", "2 " + twelve, "2 " + twelve + "says 0 0;");
        sentence("Terms 4", "KNOWS: MEANINGS .. (none, if that is nothing)");
        is("nothing caught", x.knows(0, 0, 2, 0, NONE), 0);
        is("nothing said", x.knows(0, 0, NONE, 1, NONE), 0);
        is("the first of none", x.knows(0, 0, 2, 0, 0), MISSING);
        sentence("Terms 4", "KNOWS: MEANINGS .. (none, if that is more than 12)");
        is("twelve caught", x.knows(0, 0, 1, 0, NONE), 1);
        is("what they mean", x.knows(0, 0, 1, 0, 0), 5);
        is("thirteen caught", x.knows(0, 1, 1, 0, NONE), 0);
        is("fifty caught less one", knowing("look 1 0;" + "says 0 0;".repeat(49), 1), 0);
        sentence("Promise 26", "(by NONE: MEANINGS of SAID, likewise)");
        is("twelve said", x.knows(0, 0, NONE, 0, NONE), 1);
        is("thirteen said", x.knows(0, 1, NONE, 0, NONE), 0);
        is("fifty said", knowing("says 0 0;".repeat(50), NONE), 0);
        is("one said", knowing("says 0 0;", NONE), 1);
        is("twelve caught of thirteen", knowing("says 0 0;" + twelve, 1), 1);
        is("thirteen said, twelve caught", knowing("says 0 0;" + twelve, NONE), 0);
    }

    private int knowing(String meal, int by) {
        return table("0 rule 0 0 0 head;sign 0 0 5;", "2 " + meal).knows(0, 0, by, 0, NONE);
    }

    private void knowsRefused() {
        SilentTable x = table("0 " + SUMS, "0 ", "2 seats 6;look 0 5;says 5 2;says 5 2;", "2 seats 1;says 0 2;");
        sentence("Promise 26", "how many (k NONE), or the k-th by numbers. -2: as caught()");
        // 3 + 3, 3 + 4 or 4 + 4.
        is("how many", x.knows(0, 0, 0, 5, NONE), 3);
        is("the last", x.knows(0, 0, 0, 5, 2), 8);
        takes("k", NONE, 2, MISSING, k -> x.knows(0, 0, 0, 5, k));
        takes("k of said", NONE, 1, MISSING, k -> x.knows(0, 1, NONE, 0, k));
        takes("k of none", NONE, NONE, MISSING, k -> x.knows(1, 0, 0, 5, k));
        takes("by", NONE, 4, MISSING, by -> x.knows(0, 0, by, 5, NONE));
        takes("seat", 0, 5, MISSING, seat -> x.knows(0, 0, NONE, seat, NONE));
        takes("seat of one", 0, 0, MISSING, seat -> x.knows(0, 1, NONE, seat, NONE));
        takes("meal", 0, 1, MISSING, m -> x.knows(0, m, NONE, 0, NONE));
        for (int seat = 0; seat < 6; seat++) {
            is("both are " + seat, x.knows(0, 0, seat, seat, NONE), MISSING);
        }
        sentence("Promise 26", "-2: there is no such LIST");
        takes("list", 0, 1, MISSING, l -> x.knows(l, 0, NONE, 0, NONE));
    }

    private void sure() {
        sentence("Terms 4", "SURE of one: he KNOWS just one, and the MEANINGS of SAID are just that one");
        String list = "0 rule 0 0 0 plus;sign 0 0 1;sign 1 0 2;sign 1 0 2;sign 2 0 3;sign 2 0 4;sign 3 0 0;sign 4 0 1;sign 4 0 2;";
        is("all others", table(list, "2 seats 6;look 0 5;look 1 5;look 2 5;look 3 5;look 4 5;says 5 0;").sure(0, 0, 5), 31);
        is("nobody", table(list, "2 seats 6;says 5 0;").sure(0, 0, 5), 0);
        is("just one by two trees", table(list, "2 look 1 0;says 0 1;").sure(0, 0, 0), 2);
        is("both mean two", table(list, "2 look 1 0;says 0 2;").sure(0, 0, 0), 0);
        is("he knows one, it has two", table(list, "2 look 1 0;says 0 3;away 1;says 0 4;").sure(0, 0, 0), 0);
        is("he knows two, it has one", table(list, "2 look 1 0;says 0 4;away 1;says 0 5;").sure(0, 0, 0), 0);
        is("he knows another one", table(list, "2 look 1 0;says 0 0;away 1;says 0 1;").sure(0, 0, 0), 0);
        is("less than was said, the same", table(list, "2 look 1 0;says 0 1;away 1;says 0 3;").sure(0, 0, 0), 2);
        is("none in both", table(list, "2 look 1 0;says 0 9;").sure(0, 0, 0), 0);
        is("nothing said", table(list, "2 look 1 0;").sure(0, 0, 0), 0);
        sentence("Terms 4", "SURE .. the MEANINGS of SAID (none, if that is more than 12)");
        String head = "0 rule 0 0 0 head;sign 0 0 5;";
        is("twelve", table(head, "2 look 1 0;" + "says 0 0;".repeat(12)).sure(0, 0, 0), 2);
        is("thirteen", table(head, "2 look 1 0;" + "says 0 0;".repeat(13)).sure(0, 0, 0), 0);
        is("twelve caught of thirteen", table(head, "2 says 0 0;look 1 0;" + "says 0 0;".repeat(12)).sure(0, 0, 0), 0);
        SilentTable x = table(head, "0 ", "2 seats 6;look 0 5;says 5 0;", "2 seats 1;says 0 0;");
        sentence("Promise 27", "SEATS (bits). NONE: there is none such (of any)");
        is("the abbot", x.sure(0, 0, 5), 1);
        is("the only seat", x.sure(0, 1, 0), 0);
        is("an empty list", x.sure(1, 0, 5), 0);
        takes("list", 0, 1, NONE, l -> x.sure(l, 0, 5));
        takes("meal", 0, 1, NONE, m -> x.sure(0, m, 0));
        takes("seat of six", 0, 5, NONE, seat -> x.sure(0, 0, seat));
        takes("seat of one", 0, 0, NONE, seat -> x.sure(0, 1, seat));
    }

    private void passed() {
        SilentTable x = table("2 " + LINE, "2 seats 6;look 1 0;away 1;look 1 2;look 2 1;look 2 0;");
        sentence("Terms 4", "PASSED: the fewest hands from the first one to the second one: one, five");
        for (int to = 1; to < 6; to++) {
            is("to " + to, x.passed(0, 0, to), to);
            is("back from " + to, x.passed(0, to, 0), NONE);
            is("from 1 less", x.passed(0, 1, to), to == 1 ? NONE : to - 1);
        }
        is("a shorter way", x.passed(1, 0, 2), 1);
        sentence("Terms 4", "b has it of a, if b looked at a at any DEED's end (also if not at the last)");
        is("he looks away later", x.passed(1, 0, 1), 1);
        is("he looks at another one later", x.passed(1, 1, 2), 1);
        is("he who is looked at has nothing of it", x.passed(0, 1, 0), NONE);
        is("by the last deed", table("2 look 1 0;").passed(0, 0, 1), 1);
        is("by the fiftieth deed", table("2 " + "away 0;".repeat(49) + "look 1 0;").passed(0, 0, 1), 1);
        is("in any order of deeds", table("2 look 3 2;look 2 1;look 1 0;").passed(0, 0, 3), 3);
        is("a ring", table("2 seats 6;look 0 1;look 1 2;look 2 3;look 3 4;look 4 5;look 5 0;").passed(0, 0, 1), 5);
    }

    private void passedRefused() {
        SilentTable x = table("2 seats 6;look 0 5;look 5 0;", "2 seats 1;");
        sentence("Promise 28", "NONE: it can't be");
        is("nobody looks", x.passed(0, 1, 2), NONE);
        is("without deeds", table("2 ").passed(0, 0, 1), NONE);
        is("says and away alone", table("2 says 1 0;says 2 1;away 1;").passed(0, 0, 1), NONE);
        sentence("Promise 28", "NONE: both are one");
        for (int seat = 0; seat < 6; seat++) {
            is("both are " + seat, x.passed(0, seat, seat), NONE);
        }
        is("the only one", x.passed(1, 0, 0), NONE);
        sentence("Promise 28", "NONE: there is none such (of any)");
        takes("from", 5, 5, NONE, from -> x.passed(0, from, 0));
        takes("to", 0, 0, NONE, to -> x.passed(0, 5, to));
        is("the last seat is taken", x.passed(0, 0, 5), 1);
        refuses("seat", NONE, seat -> x.passed(0, seat, 5), -1, 6, 7, MAX, MIN);
        refuses("seat of one", NONE, seat -> x.passed(1, 0, seat), 0, 1, -1);
        takes("meal", 0, 0, NONE, m -> x.passed(m, 0, 5));
    }

    private void reaches() {
        sentence("Terms 4", "REACHES: whether a ROW of SIGNS, WORN by these hands but the first, is WHOLE");
        for (int far = 1; far <= 5; far++) {
            // Another meaning comes by so many hands, so the row is whole by all fewer ones.
            SilentTable x = table("0 sign 0 0 5;sign " + far + " 0 6;" + CHAIN, "1 0", "2 " + LINE);
            for (int to = 1; to <= 5; to++) {
                is("to " + to + ", another meaning by " + far, x.reaches(0, 0, 0, 0, to), to - 1 < far);
            }
        }
        SilentTable x = table("0 sign 0 0 5;", "0 ", "1 0", "1 1", "2 seats 6;look 0 5;look 5 0;", "2 seats 1;");
        is("without meanings by no wear", x.reaches(0, 1, 0, 0, 5), false);
        sentence("Promise 29", "False, too: it can't be PASSED");
        is("it can", x.reaches(0, 0, 0, 0, 5), true);
        is("nobody looks", x.reaches(0, 0, 0, 0, 4), false);
        is("both are one", x.reaches(0, 0, 0, 0, 0), false);
        is("both are the only one", x.reaches(0, 0, 1, 0, 0), false);
        sentence("Promise 29", "False, too: there is none such (of any)");
        takes("list", 0, 0, 0, l -> x.reaches(l, 0, 0, 0, 5) ? 1 : 0);
        takes("row", 0, 0, 0, r -> x.reaches(0, r, 0, 0, 5) ? 1 : 0);
        takes("meal", 0, 0, 0, m -> x.reaches(0, 0, m, 0, 5) ? 1 : 0);
        takes("from", 0, 0, 0, from -> x.reaches(0, 0, 0, from, 5) ? 1 : 0);
        takes("to", 5, 5, 0, to -> x.reaches(0, 0, 0, 0, to) ? 1 : 0);
        refuses("row", 0, r -> x.reaches(0, r, 0, 0, 5) ? 1 : 0, 2, 3);
    }

    private void watch() {
        sentence("Terms 4", "WATCH: the SEAT .. so that it SAW most SIGNS; of several the least");
        SilentTable x = table("2 seats 6;says 4 0;says 5 0;says 4 0;says 5 0;says 1 0;", "2 seats 1;says 0 0;");
        for (int seat = 0; seat < 6; seat++) {
            is("of " + seat, x.watch(0, seat, false), seat == 4 ? 5 : 4);
            is("its signs", x.watch(0, seat, true), 2);
        }
        sentence("Terms 4", "WATCH: nobody says a SIGN: the least, with none");
        SilentTable y = table("2 seats 6;look 0 1;", "2 seats 2;says 0 1;");
        is("of 0", y.watch(0, 0, false), 1);
        is("of 1", y.watch(0, 1, false), 0);
        is("of 5", y.watch(0, 5, false), 0);
        is("its signs", y.watch(0, 5, true), 0);
        sentence("Terms 4", "WATCH: another one: never itself");
        is("of the one who says all", y.watch(1, 0, false), 1);
        is("its signs", y.watch(1, 0, true), 0);
        is("of the other", y.watch(1, 1, false), 0);
        is("its signs", y.watch(1, 1, true), 1);
        instead(y, MEAL, 1, "seats 2;" + "says 1 1;".repeat(50));
        is("fifty", y.watch(1, 0, true), 50);
        sentence("Promise 30", "NONE: there is only one SEAT");
        is("watch", x.watch(1, 0, false), NONE);
        is("signs", x.watch(1, 0, true), NONE);
        sentence("Promise 30", "NONE: none such (of either)");
        takes("meal", 0, 0, NONE, m -> x.watch(m, 0, false));
        takes("meal, signs", 0, 0, NONE, m -> x.watch(m, 0, true));
        takes("seat", 0, 5, NONE, seat -> x.watch(0, seat, false));
        takes("seat, signs", 0, 5, NONE, seat -> x.watch(0, seat, true));
        takes("seat of two", 0, 1, NONE, seat -> y.watch(1, seat, true));
    }

    private void law() {
        SilentTable x = table("3 " + "pair 9 8;".repeat(7) + "seen 9;", "3 ");
        sentence("Promise 31", "How many LAWS (k NONE, what 0): eight, none");
        is("eight", x.law(0, NONE, 0), 8);
        is("none", x.law(1, NONE, 0), 0);
        sentence("Promise 31", "1, 2: its numbers (NONE without)");
        is("of pair", x.law(0, 6, 1) * 10 + x.law(0, 6, 2), 98);
        SilentTable y = table("3 never 1;most 2 3;order 4 5;pair 6 7;hidden 8;seen 9;");
        int[] second = {NONE, 3, 5, 7, NONE, NONE};
        for (int k = 0; k < 6; k++) {
            is("what law " + k + " is", y.law(0, k, 0), k);
            is("its second number", y.law(0, k, 2), second[k]);
        }
        sentence("Promise 31", "-2: there is none such (of either)");
        takes("house", 0, 1, MISSING, h -> x.law(h, NONE, 0));
        takes("k of eight", NONE, 7, MISSING, k -> x.law(0, k, 0));
        takes("k of none", NONE, NONE, MISSING, k -> x.law(1, k, 0));
        takes("k of eight, its number", 0, 7, MISSING, k -> x.law(0, k, 2));
        sentence("Promise 31", "-2: for another what");
        takesJust("what of a law", MISSING, what -> x.law(0, 7, what), 0, 1, 2);
        takesJust("what of all", MISSING, what -> x.law(0, NONE, what), 0);
    }

    /** The deeds of a meal that break the only law of a house. */
    private void broken(String house, String meal, int... deeds) {
        SilentTable x = table("2 " + meal, "3 " + house);
        String call = house + " at " + meal;
        is(call, x.breaks(0, 0, 0), deeds.length == 0 ? NONE : deeds[0]);
        is(call + ", the law", x.breaks(0, 0, 1), deeds.length == 0 ? NONE : 0);
        is(call + ", sins", x.sins(0, 0, NONE), deeds.length);
        for (int deed : deeds) {
            not(call + ", who", x.sins(0, 0, x.deed(0, deed, 1)), 0);
        }
    }

    private void neverAndMost() {
        sentence("Terms 4", "never: this SIGN is said");
        broken("never 9;", "says 0 9;", 0);
        broken("never 0;", "says 3 0;", 0);
        broken("never 9;", "says 0 8;look 0 1;away 0;");
        broken("never 9;", "");
        sentence("Terms 4", "most: it is said more often (0 times, 9 times, by anyone)");
        broken("most 1 0;", "says 0 1;", 0);
        broken("most 1 0;", "says 0 0;");
        broken("most 1 1;", "says 0 1;");
        broken("most 1 1;", "says 0 1;says 2 1;", 1);
        broken("most 1 2;", "says 0 1;says 2 1;says 0 2;says 1 1;says 3 1;", 3, 4);
        broken("most 1 9;", "says 0 1;".repeat(9));
        broken("most 1 9;", "says 0 1;".repeat(10), 9);
        broken("most 1 9;", "says 0 1;says 0 2;".repeat(10), 18);
    }

    private void order() {
        sentence("Terms 4", "order: the second SIGN is said, and the first one was not ahead of it");
        broken("order 1 2;", "says 0 2;", 0);
        broken("order 1 2;", "says 0 1;");
        broken("order 1 2;", "says 0 1;says 3 2;says 2 2;");
        broken("order 1 2;", "says 0 2;says 1 2;says 0 1;says 0 2;", 0, 1);
        broken("order 1 2;", "");
        broken("order 1 1;", "says 0 1;says 1 1;", 0);
    }

    private void pair() {
        sentence("Terms 4", "pair: someone's second SIGN comes right behind his own first one");
        broken("pair 1 2;", "says 0 1;says 0 2;", 1);
        broken("pair 1 2;", "says 0 2;");
        broken("pair 1 2;", "says 0 2;says 0 1;");
        broken("pair 0 2;", "says 0 2;");
        broken("pair 0 0;", "says 0 0;says 1 0;says 2 0;");
        broken("pair 0 0;", "says 0 0;says 3 0;says 3 0;", 2);
        broken("pair 1 2;", "says 0 1;says 0 1;says 0 2;says 0 2;", 2);
        broken("pair 1 1;", "says 0 1;says 0 1;says 0 1;", 1, 2);
        broken("pair 1 1;", "says 0 1;says 1 1;");
        sentence("Terms 4", "(his SIGNS, others between do not matter)");
        broken("pair 1 2;", "says 0 1;says 1 2;");
        broken("pair 1 2;", "says 0 1;says 1 5;look 0 1;away 0;says 2 2;says 0 2;", 5);
        broken("pair 1 2;", "says 0 1;says 0 3;says 0 2;");
        broken("pair 1 2;", "seats 6;says 5 1;says 0 1;says 5 2;says 0 2;", 2, 3);
    }

    private void hiddenAndSeen() {
        sentence("Terms 4", "hidden: it is said, and the ABBOT looks at who says it (ABBOT: SEAT 0)");
        broken("hidden 1;", "look 0 1;says 1 1;", 1);
        broken("hidden 1;", "look 0 1;says 1 2;");
        broken("hidden 1;", "look 0 2;says 1 1;");
        broken("hidden 1;", "look 2 1;look 3 1;says 1 1;");
        broken("hidden 1;", "look 0 1;away 0;says 1 1;");
        broken("hidden 1;", "look 0 1;says 0 1;");
        broken("hidden 1;", "says 1 1;look 0 1;");
        sentence("Terms 4", "seen: it is said, and nobody SAW it");
        broken("seen 1;", "says 1 1;", 0);
        broken("seen 1;", "says 1 2;");
        broken("seen 1;", "look 2 1;says 1 1;");
        broken("seen 1;", "look 0 1;says 1 1;");
        broken("seen 1;", "look 2 1;away 2;says 1 1;", 2);
        broken("seen 1;", "look 1 2;says 1 1;", 1);
        broken("seen 1;", "seats 1;says 0 1;", 0);
    }

    private void breaks() {
        sentence("Terms 4", "BREAKS: the first DEED by which any LAW is broken; of several LAWS the first");
        SilentTable x = table("3 never 3;never 2;most 2 0;never 1;", "2 look 1 0;says 3 0;says 2 2;says 1 3;", "3 ", "2 ");
        is("the deed", x.breaks(0, 0, 0), 2);
        is("the law", x.breaks(0, 0, 1), 1);
        is("the seat", x.breaks(0, 0, 2), 2);
        instead(x, HOUSE, 0, "seen 9;".repeat(7) + "never 9;");
        instead(x, MEAL, 0, "seats 6;" + "look 0 5;".repeat(49) + "says 5 9;");
        is("the last deed", x.breaks(0, 0, 0), 49);
        is("by the last law", x.breaks(0, 0, 1), 7);
        is("of the last seat", x.breaks(0, 0, 2), 5);
        sentence("Promise 32", "NONE: none is broken");
        for (int what = 0; what < 3; what++) {
            is("no laws", x.breaks(1, 0, what), NONE);
            is("no deeds", x.breaks(0, 1, what), NONE);
        }
        instead(x, MEAL, 1, "look 0 1;look 1 0;says 1 9;away 0;");
        instead(x, HOUSE, 1, "never 8;most 9 1;order 8 7;pair 9 9;hidden 8;seen 9;");
        for (int what = 0; what < 3; what++) {
            is("a sign that all laws allow", x.breaks(1, 1, what), NONE);
        }
        sentence("Promise 32", "NONE: there is none such (of either), or for another what");
        takes("house", 0, 0, NONE, h -> x.breaks(h, 0, 0));
        takes("meal", 0, 1, NONE, m -> x.breaks(0, m, 0));
        takesJust("what", NONE, what -> x.breaks(0, 0, what), 0, 1, 2);
    }

    private void sins() {
        SilentTable x = table("3 never 9;most 9 0;", "2 seats 6;" + "says 5 9;".repeat(50), "3 ", "2 seats 1;says 0 9;");
        sentence("Terms 4", "SINS of a SEAT: how many of its DEEDS break any LAW: all, none, each but once");
        is("of 5", x.sins(0, 0, 5), 50);
        is("of 0", x.sins(0, 0, 0), 0);
        is("of all", x.sins(0, 0, NONE), 50);
        is("without laws", x.sins(1, 0, NONE), 0);
        is("without laws, of 5", x.sins(1, 0, 5), 0);
        is("of the only one", x.sins(0, 1, 0), 1);
        sentence("Promise 33", "(seat NONE) of all. NONE: there is none such (of any)");
        takes("seat of six", NONE, 5, NONE, seat -> x.sins(0, 0, seat));
        takes("seat of one", NONE, 0, NONE, seat -> x.sins(0, 1, seat));
        takes("house", 0, 1, NONE, h -> x.sins(h, 0, 0));
        takes("meal", 0, 1, NONE, m -> x.sins(0, m, 0));
        instead(x, MEAL, 1, "");
        is("without deeds", x.sins(0, 1, NONE), 0);
    }

    private void mildest() {
        sentence("Terms 4", "MILDEST: the LAW without which fewest DEEDS break any; of several the least");
        SilentTable x = table("3 never 1;never 2;never 3;", "2 says 0 1;says 0 2;says 0 2;says 0 3;says 0 3;", "3 ", "2 ");
        is("of two the least", x.mildest(0, 0), 1);
        instead(x, HOUSE, 0, "seen 9;".repeat(7) + "never 3;");
        is("the last law", x.mildest(0, 0), 7);
        instead(x, HOUSE, 0, "never 3;never 3;never 1;");
        is("one told twice does not help", x.mildest(0, 0), 2);
        instead(x, HOUSE, 0, "never 3;most 3 0;");
        is("both are broken by the same deeds", x.mildest(0, 0), 0);
        is("no deeds", x.mildest(0, 1), 0);
        instead(x, HOUSE, 0, "never 9;never 8;");
        is("none is broken", x.mildest(0, 0), 0);
        instead(x, HOUSE, 0, "never 1;");
        is("the only law", x.mildest(0, 0), 0);
        SilentTable full = table("3 never 9;most 9 0;seen 9;", "2 " + "says 0 9;".repeat(50), "3 never 8;never 9;", "2 says 0 8;says 0 9;says 0 9;");
        is("fifty deeds without any one of them", full.mildest(0, 0), 0);
        is("fifty deeds without the first", full.mildest(1, 0), 1);
        is("fewer deeds behind more", full.mildest(1, 1), 1);
        is("fewer deeds behind more", full.sins(1, 1, NONE), 3);
        sentence("Promise 34", "NONE: there are no LAWS");
        is("no laws", x.mildest(1, 0), NONE);
        sentence("Promise 34", "NONE: there is none such (of either)");
        takes("house", 0, 0, NONE, h -> x.mildest(h, 0));
        takes("meal", 0, 1, NONE, m -> x.mildest(0, m));
        refuses("house", NONE, h -> x.mildest(h, 0), 2, 3);
    }

    private void asks() {
        sentence("Terms 5", "ASKS: SURE of a VALUE by as many hands as it is PASSED by, but the first");
        SilentTable x = table("0 rule 0 1 1 head;sign 0 0 5;sign 4 0 6;sign 9 1 5;" + CHAIN, "2 " + LINE, "2 seats 1;");
        for (int to = 1; to <= 5; to++) {
            // By four hands sign 0 may mean 6; two nines mean 5 still.
            is("to " + to, x.asks(0, 5, 0, 0, to, 0), to < 5 ? 1 : 2);
            is("its first sign", x.asks(0, 5, 0, 0, to, 1), to < 5 ? 0 : 9);
            is("from 1 to " + to, x.asks(0, 5, 0, 1, to, 0), to == 1 ? NONE : 1);
        }
        sentence("Promise 39", "NONE: by none, it can't be PASSED");
        is("by none", x.asks(0, 7, 0, 0, 1, 0), NONE);
        is("it can't", x.asks(0, 5, 0, 1, 0, 0), NONE);
        is("both are one", x.asks(0, 5, 0, 1, 1, 0), NONE);
        is("both are the only one", x.asks(0, 5, 1, 0, 0, 0), NONE);
        sentence("Promise 39", "NONE: there is none such (of any)");
        takes("list", 0, 0, NONE, l -> x.asks(l, 5, 0, 0, 1, 0));
        takes("meal", 0, 0, NONE, m -> x.asks(0, 5, m, 0, 1, 0));
        takes("from", 0, 4, NONE, from -> x.asks(0, 5, 0, from, 5, 0));
        takes("to", 1, 5, NONE, to -> x.asks(0, 5, 0, 0, to, 0));
        sentence("Promise 39", "NONE: another VALUE, or for another what");
        SilentTable y = table("0 sign 0 0 0;sign 9 0 49;rule 0 1 2 head;sign 7 1 5;sign 7 2 5;", "2 look 1 0;");
        refuses("value", NONE, v -> y.asks(0, v, 0, 0, 1, 0), -1, -2, 50, 51, 256, 1 << 16, MAX, MIN);
        is("value 0", y.asks(0, 0, 0, 0, 1, 1), 0);
        is("value 49", y.asks(0, 49, 0, 0, 1, 1), 9);
        takesJust("what of one", NONE, what -> y.asks(0, 49, 0, 0, 1, what), 0, 1);
        takesJust("what of two", NONE, what -> y.asks(0, 5, 0, 0, 1, what), 0, 1, 2);
        takesJust("what of none", NONE, what -> y.asks(0, 6, 0, 0, 1, what));
        is("a value that is there", y.asks(0, 5, 0, 0, 1, 0), 2);
        instead(y, LIST, 0, "sign 0 0 0;");
        is("no value, of a list told anew", y.asks(0, -1, 0, 0, 1, 0), NONE);
        is("a value that was there", y.asks(0, 5, 0, 0, 1, 0), NONE);
    }

    private void loudest() {
        sentence("Terms 5", "LOUDEST: the SIGN said most often in a MEAL; of several the least");
        is("the only one", table("2 says 0 9;").hears(0, 0), 9);
        is("sign 0", table("2 says 0 0;").hears(0, 0), 0);
        is("of two the least", table("2 says 0 9;says 1 8;").hears(0, 0), 8);
        is("by two seats", table("2 says 0 9;says 1 8;says 2 9;").hears(0, 0), 9);
        is("of all ten", table("2 says 0 9;says 0 8;says 0 7;says 0 6;says 0 5;says 0 4;says 0 3;says 0 2;says 0 1;says 0 0;").hears(0, 0), 0);
        is("fifty times", table("2 " + "says 0 9;".repeat(50)).hears(0, 0), 9);
        sentence("Promise 40", "LOUDEST (what 0; NONE: none is said)");
        is("no deeds", table("2 ").hears(0, 0), NONE);
        is("no signs", table("2 look 0 1;away 0;").hears(0, 0), NONE);
    }

    private void blindAndEyes() {
        sentence("Terms 5", "BLIND: how many DEEDS are says while he who makes the SIGN looks at nobody: all, none");
        is("all", table("2 " + "says 0 0;".repeat(50)).hears(0, 1), 50);
        is("none", table("2 look 0 1;" + "says 0 0;".repeat(49)).hears(0, 1), 0);
        is("look and away are not says", table("2 away 0;away 1;look 2 1;").hears(0, 1), 0);
        is("he looks away again", table("2 look 0 1;says 0 0;away 0;says 0 0;says 1 0;").hears(0, 1), 2);
        is("others look at him", table("2 look 1 0;says 0 0;").hears(0, 1), 1);
        is("the last seat looks", table("2 seats 6;look 5 0;says 5 0;says 4 0;says 0 0;").hears(0, 1), 2);
        is("the last seat does not", table("2 seats 6;look 0 5;look 4 5;look 1 5;says 5 0;says 5 0;says 4 0;").hears(0, 1), 2);
        sentence("Terms 5", "EYES of a SEAT: how many DEEDS that are says it SAW, of all others: all, none");
        SilentTable x = table("2 look 0 1;" + "says 1 0;".repeat(49), "2 look 0 1;says 1 0;says 2 0;look 0 2;says 2 0;says 1 0;says 0 0;");
        is("all", x.hears(0, 10), 49);
        is("none", x.hears(0, 11), 0);
        is("of two others", x.hears(1, 10), 2);
        is("not his own", x.hears(1, 11), 0);
    }

    private void hears() {
        SilentTable x = table("2 seats 6;says 0 1;", "2 seats 1;");
        sentence("Promise 40", "10 + s: EYES of SEAT s. -2: there is none such (of any), or for another what");
        takesJust("what of six", MISSING, what -> x.hears(0, what), 0, 1, 10, 11, 12, 13, 14, 15);
        takesJust("what of one", MISSING, what -> x.hears(1, what), 0, 1, 10);
        takes("meal", 0, 1, MISSING, m -> x.hears(m, 0));
        takes("meal, blind", 0, 1, MISSING, m -> x.hears(m, 1));
        takes("meal, eyes", 0, 1, MISSING, m -> x.hears(m, 10));
    }
}
