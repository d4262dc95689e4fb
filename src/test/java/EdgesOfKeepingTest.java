/** The boundary cases of promises 21 to 28, and of what is told of RULES. */
final class EdgesOfKeepingTest {
    private static final String THREE = "year w000 d100 d200 d400\n";

    public static void main(String[] args) {
        Edges e = new Edges();
        rulesInOrder(e);
        rulesPassOver(e);
        cost(e);
        most(e);
        rule(e);
        plan(e);
        planRow(e);
        till(e);
        tillSixty(e);
        better(e);
        least(e);
        chain(e);
        e.end("EdgesOfKeepingTest");
    }

    private static void rulesInOrder(Edges e) {
        e.edge("RULE 0: those that COST least first", "year w030 d500 d400 d300", "rule(0) = 4 : 3");
        e.edge("RULE 0: of like ones by numbers", "year w030 d500 d300 d300", "rule(0) = 2 : 3");
        e.edge("RULE 0: what they COST now, not EFFORT", "year w020 d300 d970", "rule(0) = 2 : 2");
        e.edge("RULE 1: by their numbers", "year w050 d500 d400 d300", "rule(1) = 1 : 5");
        // CHAINS are 0, 2, 1, and they cost 9, 7, 8.
        String chains = "year w400 d900 d900 d900\nday(2, 0) = 1\nday(6, 0) = 2\n";
        e.edge("RULE 2: the longest CHAIN first", chains, "will(15) = 40", "rule(2) = 6 : 15", "will(8) = 15",
                "rule(2) = 2 : 7");
        e.edge("RULE 2: of like ones by numbers", "year w400 d900 d900 d900", "day(6, 0) = 2", "will(8) = 40",
                "rule(2) = 2 : 8");
        e.edge("RULE 2: all CHAINS 0", "year w050 d500 d300 d200", "rule(2) = 1 : 5");
        e.edge("RULE 3: the least HABIT first", "year w020 d430 d320 d210", "rule(3) = 6 : 2", "will(1) = 2",
                "rule(3) = 4 : 1");
        e.edge("RULE 3: of like ones by numbers", "year w010 d320 d320", "rule(3) = 1 : 1");
    }

    private static void rulesPassOver(Edges e) {
        e.edge("a RULE: as long as the WILL lasts, just", "year w050 d300 d200", "rule(1) = 3 : 5");
        e.edge("a RULE: one for which it does not last is passed over", "year w050 d300 d300 d200", "rule(1) = 5 : 5");
        e.edge("a RULE: passed over, the first", "year w010 d500 d210", "rule(1) = 2 : 1", "rule(2) = 2 : 1",
                "rule(3) = 2 : 1", "rule(0) = 2 : 1");
        e.edge("a RULE: passed over, two in the middle", "year w060 d400 d500 d300 d200", "rule(1) = 9 : 6");
        e.edge("a RULE: the least WILL, what COSTS nothing is KEPT", "year w000 d100 d000 d110", "rule(0) = 6 : 0",
                "rule(1) = 6 : 0", "rule(2) = 6 : 0", "rule(3) = 6 : 0");
        e.edge("a RULE: the greatest WILL, just", "year w400 d900 d900 d900 d900 d400", "rule(1) = 31 : 40",
                "will(39) = 40", "rule(1) = 15 : 36", "rule(0) = 23 : 31");
        e.edge("a RULE: of DEEDS not given up", "year w010 d100 d100 d100", "drop(0) = 2", "rule(0) = 2 : 1",
                "rule(1) = 2 : 1", "rule(2) = 2 : 1", "rule(3) = 2 : 1");
        e.edge("a RULE: all given up", "year w400 d000", "drop(0) = 0", "rule(0) = 0 : 0", "rule(1) = 0 : 0",
                "rule(2) = 0 : 0", "rule(3) = 0 : 0");
    }

    private static void cost(Edges e) {
        e.edge("21 cost: the empty set", THREE, "cost(0) = 0");
        e.edge("21 cost: each, all together", THREE, "cost(1) = 1", "cost(2) = 2", "cost(3) = 3", "cost(4) = 4",
                "cost(5) = 5", "cost(6) = 6", "cost(7) = 7");
        e.edge("21 cost: given up or not", THREE, "drop(0) = 2", "drop(1) = 1", "drop(2) = 0", "cost(7) = 7",
                "cost(2) = 2");
        e.edge("21 cost: the greatest", "year w000 s909 s909 s909 s909 s909", "5 x day(0, 0) = 0", "cost(31) = 90",
                "cost(0) = 0");
        e.edge("21 cost: more than the WILL", "year w000 d900", "cost(1) = 9");
        e.edge("21 cost: no DEEDS", "cost(0) = 0", "cost(1) = BAD", "cost(-1) = BAD");
        e.range("year w000 d000", "cost(_)", 0, 1);
        e.range(THREE, "cost(_)", 0, 7);
        e.range("year w000 d000 d000 d000 d000 d000", "cost(_)", 0, 31);
    }

    private static void most(Edges e) {
        e.edge("22 most: none", "year w000 d100 d200", "most() = 0 : 0");
        e.edge("22 most: one, just", "year w010 d100 d200", "most() = 1 : 1");
        e.edge("22 most: both, just", "year w030 d100 d200", "most() = 2 : 3");
        e.edge("22 most: all five", "year w400 d900 d900 d900 d900 d400", "most() = 5 : 31");
        e.edge("22 most: all five but for 1", "year w390 d900 d900 d900 d900 d400", "most() = 4 : 23");
        e.edge("22 most: of as many those that COST least", "year w100 d500 d400 d300", "most() = 2 : 6");
        e.edge("22 most: of these the least number", "year w040 d200 d200 d200", "most() = 2 : 3");
        e.edge("22 most: of these the least number, behind a cheaper one", "year w030 d300 d100 d200 d200",
                "most() = 2 : 6");
        e.edge("22 most: the least WILL, what COSTS nothing", "year w000 d100 d000", "most() = 1 : 2");
        e.edge("22 most: of those not given up", "year w400 d100 d200 d300", "drop(0) = 2", "most() = 2 : 6");
        e.edge("22 most: all given up", "year w400 d000", "drop(0) = 0", "most() = 0 : 0");
        e.edge("22 most STATE: no DEEDS", "most() = STATE");
    }

    private static void rule(Edges e) {
        e.edge("23 rule: none is KEPT", "year w000 d100", "rule(0) = 0 : 0", "rule(3) = 0 : 0");
        e.edge("23 rule STATE: no DEEDS", "rule(0) = STATE", "rule(3) = STATE");
        e.edge("23 rule: BAD ahead of STATE", "rule(4) = BAD", "rule(-1) = BAD");
        e.range(THREE, "rule(_)", 0, 3);
    }

    private static void plan(Edges e) {
        e.edge("24 plan: n 0, a ROW without places", "year w400 d000", "plan(0, 2) = 0", "count(8) = 1",
                "at(2, 0) = BEYOND", "mean(2) = NOUGHT");
        e.edge("24 plan: one DAY", "year w010 d200 d100", "plan(1, 0) = 1", row(2));
        e.edge("24 plan: one DAY, the first set, though it COSTS more", "year w050 d500 d100", "plan(1, 0) = 1", row(1),
                "most() = 1 : 2");
        e.edge("24 plan: two DAYS, the first such row", "year w010 d100 d100", "plan(2, 0) = 3", row(1, 3));
        e.edge("24 plan: three DAYS, the first such row", "year w010 d100 d100", "plan(3, 0) = 5", row(1, 3, 3));
        e.edge("24 plan: three DAYS, nothing can be KEPT", "year w000 d100", "plan(3, 0) = 0", row(0, 0, 0));
        e.edge("24 plan: the most of all", "year w400 d000 d000 d000 d000 d000", "plan(3, 5) = 15",
                "at(5, 0) = 1 : 31", "at(5, 1) = 1 : 31", "at(5, 2) = 1 : 31", "at(5, 3) = BEYOND");
        // Rain on DAY 3 makes both cost 2 then, which is one too much for both.
        e.edge("24 plan: from the DAY that it is", "year w020 r100 r100", "plan(3, 0) = 5", row(3, 3, 1),
                "2 x day(3, 0) = 2", "plan(1, 0) = 1", row(1), "plan(2, 0) = 3", row(1, 3));
        e.edge("24 plan: nothing is OFF", "year w079 d510 f800", "plan(2, 0) = 2", row(1, 1));
        e.edge("24 plan: of those not given up", "year w409 d100 d100 d100", "drop(1) = 2", "plan(3, 0) = 6",
                row(5, 5, 5));
        e.edge("24 plan: all given up", "year w400 d000", "drop(0) = 0", "plan(3, 0) = 0", row(0, 0, 0));
    }

    private static void planRow(Edges e) {
        e.edge("24 plan: the ROW anew, longer", "year w010 d200 d100", "row(0, 0) = 0", "plan(2, 0) = 2", row(2, 2),
                "count(8) = 1");
        e.edge("24 plan: the ROW anew, shorter", "year w010 d200 d100", "row 0 7 8 9 9", "plan(1, 0) = 1", row(2),
                "row(0, 4) = 4", "at(0, 3) = 1 : 0");
        e.edge("24 plan: other ROWS stay", "year w010 d200 d100", "row 0 7", "row 2 8", "plan(1, 1) = 1",
                "at(0, 0) = 1 : 7", "at(2, 0) = 1 : 8", "at(1, 0) = 1 : 2");
        e.edge("24 plan refused: the ROW as it was", "row 0 7", "plan(1, 0) = STATE", "plan(4, 0) = BAD", row(7),
                "plan(0, 1) = STATE", "count(8) = 1");
        e.edge("24 plan STATE: no DEEDS", "plan(0, 0) = STATE", "plan(3, 5) = STATE");
        e.edge("24 plan: BAD ahead of STATE", "plan(4, 0) = BAD", "plan(-1, 0) = BAD", "plan(0, 6) = BAD",
                "plan(0, -1) = BAD");
        e.range(THREE, "plan(_, 0)", 0, 3);
        e.range(THREE, "plan(0, _)", 0, 5);
    }

    private static void till(Edges e) {
        e.edge("25 till: at once, HABIT is EFFORT", "year w000 d440", "till(0) = 0 : 0", "till(3) = 0 : 0");
        e.edge("25 till: at once, HABIT is more", "year w000 d450", "till(1) = 0 : 0");
        e.edge("25 till: at once, five DEEDS", "year w000 d440 d000 d110 d220 d330", "till(0) = 0 : 0");
        e.edge("25 till: at once, behind a YEAR of more DEEDS", "year w000 d440 d900", "till(0) = NONE",
                "year w000 d440", "till(0) = 0 : 0");
        e.edge("25 till: one DAY, HABIT is 1 less", "year w400 d430", "till(2) = 1 : 1");
        e.edge("25 till: not before all do", "year w400 d440 d410 d430", "till(0) = 3 : 9");
        e.edge("25 till: the first time, though it would be lost in the rain", "year w010 r100", "till(0) = 1 : 1");
        e.edge("25 till: HABIT, not COST", "year w000 m100", "till(0) = 1 : 1");
        e.edge("25 till: one given up is not waited for", "year w090 d300 d900", "drop(1) = 1", "till(0) = 3 : 3");
        e.edge("25 till: one given up stays so", "year w000 d100", "till(0) = NONE", "drop(0) = 0", "till(0) = 0 : 0");
        e.edge("25 till: all given up", "year w000 d900 d900", "drop(0) = 1", "drop(1) = 0", "till(3) = 0 : 0");
        e.edge("25 till NONE: asked() stays", "year w000 d100", "deed(0, 1) = 1 : 1", "till(0) = NONE",
                "asked() = 1");
        e.edge("25 till: nothing is OFF, one that must slip never goes", "year w019 d110 d330 d530", "till(1) = NONE");
        e.edge("25 till STATE: no DEEDS", "till(0) = STATE", "till(3) = STATE");
        e.edge("25 till: BAD ahead of STATE", "till(4) = BAD", "till(-1) = BAD");
        e.range(THREE, "till(_)", 0, 3);
    }

    /**
     * Runs of EFFORT 9 under a WILL of 9, by their numbers. One that is KEPT leaves no WILL for the
     * next but for its own last DAY, and in the rain each that goes by itself costs 2.
     * The first is KEPT on DAYS 1 to 9, and always from then on. The second begins on DAY 10, slips
     * on 12 and 15, and has 9 by DAY 22. The third begins on DAY 23, slips on 24, 27, 30, 33, 36, and
     * has 9 by DAY 41. The fourth begins on DAY 43 and slips on 45, 48, 51, 54, 57.
     * Of EFFORT 8 it has 8 by DAY 60 (it was KEPT on 22, 41 as well, for the 8 then left, and slipped
     * behind each): 60 + 49 + 33 + 15 are KEPT.
     * Of EFFORT 9 it slips on 60 as well, and has 9 by DAY 63: 63 + 52 + 36 + 15.
     */
    private static void tillSixty(Edges e) {
        e.edge("25 till: 60 DAYS", "year w090 r900 r900 r900 r800", "till(1) = 60 : 157");
        e.edge("25 till NONE: not in 60, but in 63, 62, 61", "year w090 r900 r900 r900 r900", "till(1) = NONE",
                "day(1, 0) = 1", "till(1) = NONE", "day(1, 0) = 1", "till(1) = NONE", "day(1, 0) = 1",
                "till(1) = 60 : 163");
    }

    private static void better(Edges e) {
        e.edge("26 better: n 0, the first", "year w020 d200 d100 d100", "better(0) = 0 : 0");
        e.edge("26 better: like ones, the first", "year w400 d100 d100", "better(1) = 0 : 2", "better(60) = 0 : 120");
        e.edge("26 better: the most of all", "year w000 d000 d000 d000 d000 d000", "better(60) = 0 : 300");
        e.edge("26 better: none is KEPT", "year w000 d100", "better(60) = 0 : 0");
        e.edge("26 better: RULE 0", "year w020 d200 d100 d100", "better(1) = 0 : 2");
        // RULE 1 KEEPS {0 1} for 4 and 5, then all for 3, 4, 3 (RULE 2 as well); the others {0 2} twice.
        e.edge("26 better: RULE 1", "year w100 d400 r837 r301", "better(2) = 1 : 5");
        // RULE 0 KEEPS {1 2} on each DAY. RULE 2 {0 2}, {0 2}, and on DAY 3 all, for 4, 4, 1;
        // RULE 1 {0 2}, {0 1}, {0 1}; RULE 3 {1 2}, {1 2}, {0 2}.
        e.edge("26 better: RULE 2", "year w090 d938 d406 s302", "better(3) = 2 : 7");
        // On DAY 2 RULE 3 has all three for 2, 1, 0.
        e.edge("26 better: RULE 3", "year w030 f640 f834 d222", "better(2) = 3 : 5");
        e.edge("26 better: of those not given up", "year w400 d000 d000", "drop(0) = 1", "better(60) = 0 : 60");
        e.edge("26 better: all given up", "year w400 d000", "drop(0) = 0", "better(60) = 0 : 0");
        e.edge("26 better STATE: no DEEDS", "better(0) = STATE", "better(60) = STATE");
        e.edge("26 better: BAD ahead of STATE", "better(61) = BAD", "better(-1) = BAD");
        e.range(THREE, "better(_)", 0, 60);
    }

    private static void least(Edges e) {
        e.edge("27 least: 0, n is 0", "year w000 d900", "least(0, 0) = 0");
        e.edge("27 least: one DAY", "year w000 d900", "least(0, 1) = 9");
        e.edge("27 least: 30 DAYS", "year w000 d900", "least(0, 30) = 9");
        e.edge("27 least: nothing at all", "year w000 d330", "least(0, 30) = 0");
        e.edge("27 least: HABIT grows, 1 on DAY 1, 2 in the rain", "year w000 r100", "least(0, 2) = 1",
                "least(0, 3) = 2", "least(0, 30) = 2");
        e.edge("27 least: HABIT of a SMALL one grows by 2: 4, 3, 2, ..", "year w000 m900", "least(0, 30) = 4");
        e.edge("27 least: PULL on DAY 6, not on DAY 5", "year w000 s009", "least(0, 5) = 0", "least(0, 6) = 9");
        e.edge("27 least: HABIT of 9 at most", "year w000 r900", "least(0, 3) = 9", "least(0, 30) = 9");
        e.edge("27 least: CHAIN grows, FRENCH COSTS 1 more on the first DAY alone", "year w000 f100", "least(0, 1) = 1",
                "least(0, 2) = 1", "day(0, 0) = 0", "will(1) = 0", "day(1, 0) = 1", "least(0, 30) = 0");
        e.edge("27 least: from the DAY that it is", "year w000 s009", "6 x day(0, 0) = 0", "least(0, 6) = 0",
                "least(0, 7) = 9");
        e.edge("27 least: given up or not", "year w000 d900 d400", "drop(0) = 1", "drop(1) = 0", "least(0, 1) = 9",
                "least(1, 1) = 4");
        e.edge("27 least: one alone, whatever the WILL", "year w000 d900 d900", "least(1, 30) = 9");
        e.edge("27 least BAD: no DEEDS", "least(0, 0) = BAD");
        e.range(THREE, "least(_, 1)", 0, 2);
        e.range(THREE, "least(0, _)", 0, 30);
    }

    private static void chain(Edges e) {
        String three = "year w010 d100 d200\n3 x day(1, 0) = 1\n";
        e.edge("28 chain: n 0, the one that it has now", three, "chain(0, 0, 0) = 3 : 0", "chain(1, 0, 3) = 0 : 0");
        e.edge("28 chain: the one that it has now goes on", three, "chain(0, 1, 0) = 4 : 1",
                "chain(0, 60, 0) = 63 : 60");
        e.edge("28 chain: the one that it has now is longest", "year w020 r200", "2 x day(1, 0) = 1", "will(1) = 2",
                "chain(0, 1, 0) = 2 : 0", "chain(0, 2, 0) = 2 : 1");
        e.edge("28 chain: 60 DAYS", "year w000 d000", "chain(0, 60, 0) = 60 : 60", "chain(0, 60, 3) = 60 : 60");
        e.edge("28 chain: never KEPT", "year w000 d100", "chain(0, 60, 1) = 0 : 0");
        // DAY 2 costs 0, DAY 3 2 (slips), DAY 4 1, DAY 5 0, DAY 6 2 (slips).
        e.edge("28 chain: the longest of several", "year w010 r101", "day(1, 0) = 1", "chain(0, 5, 0) = 2 : 3");
        e.edge("28 chain: by the RULE", "year w020 d200 d200", "chain(1, 2, 1) = 0 : 0", "chain(1, 4, 1) = 2 : 2",
                "chain(0, 4, 1) = 4 : 4");
        e.edge("28 chain: given up, as it is", three, "drop(0) = 1", "chain(0, 60, 0) = 3 : 0");
        e.edge("28 chain BAD: no DEEDS", "chain(0, 0, 0) = BAD");
        e.range(THREE, "chain(_, 1, 0)", 0, 2);
        e.range(THREE, "chain(0, _, 0)", 0, 60);
        e.range(THREE, "chain(0, 1, _)", 0, 3);
    }

    /** Calls that look at each place of ROW 0, and at its end. */
    private static String row(int... places) {
        StringBuilder lines = new StringBuilder();
        for (int i = 0; i < places.length; i++) {
            lines.append("at(0, " + i + ") = 1 : " + places[i] + "\n");
        }
        return lines.append("at(0, " + places.length + ") = BEYOND\n").toString();
    }
}
