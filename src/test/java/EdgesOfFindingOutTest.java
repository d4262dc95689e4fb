/** The boundary cases of promises 29 to 34: fits, sure, ask, habits, kinds, test. */
final class EdgesOfFindingOutTest {
    // They COST 1, 2, 3, 3.
    private static final String FOUR = "year w000 d100 d200 d300 d300\n";
    private static final String ONE = "year w000 d540\n";
    private static final String[] OF_PAIRS = {"habits", "kinds", "test"};

    public static void main(String[] args) {
        Edges e = new Edges();
        fits(e);
        sure(e);
        ask(e);
        pairs(e);
        pairsRefused(e);
        pairsInThisOrder(e);
        habits(e);
        kinds(e);
        test(e);
        e.end("EdgesOfFindingOutTest");
    }

    private static void fits(Edges e) {
        e.edge("29 fits: the least v, the empty set", FOUR, "fits(0) = 1 : 0 : 1/1");
        e.edge("29 fits: the greatest v, none", FOUR, "deed(0, 1) = 1", "fits(99) = 1 : NONE : 0/1");
        e.edge("29 fits: all together", FOUR, "fits(9) = 1 : 15 : 1/1");
        e.edge("29 fits: one more than all together", FOUR, "fits(10) = 1 : NONE : 0/1");
        e.edge("29 fits: several, the first", FOUR, "fits(3) = 1 : 3 : 3/1", "fits(6) = 1 : 7 : 3/1",
                "fits(5) = 1 : 6 : 2/1");
        e.edge("29 fits: all sets of five", "year w000 d000 d000 d000 d000 d000", "fits(0) = 1 : 0 : 32/1",
                "fits(1) = 1 : NONE : 0/1");
        e.edge("29 fits: the greatest sum that there can be", "year w000 s909 s909 s909 s909 s909",
                "5 x day(0, 0) = 0", "fits(90) = 1 : 31 : 1/1", "fits(91) = 1 : NONE : 0/1");
        e.edge("29 fits: of those not given up", FOUR, "drop(2) = 3", "fits(3) = 1 : 3 : 2/1",
                "fits(9) = 1 : NONE : 0/1", "fits(6) = 1 : 11 : 1/1");
        e.edge("29 fits: all given up, the empty set alone", "year w000 d000", "drop(0) = 0", "fits(0) = 1 : 0 : 1/1",
                "fits(1) = 1 : NONE : 0/1");
        e.edge("29 fits: the WILL is no bound", "year w000 d900", "fits(9) = 1 : 1 : 1/1");
        e.edge("29 fits: lower() is 1, whatever it was", FOUR, "will(40) = 0", "odds(1, 3) = 1 : 255/256",
                "fits(3) = 1 : 3 : 3/1");
        e.edge("29 fits STATE: no DEEDS", "fits(0) = STATE", "fits(99) = STATE");
        e.edge("29 fits: BAD ahead of STATE", "fits(100) = BAD", "fits(-1) = BAD");
        e.range(FOUR, "fits(_)", 0, 99);
    }

    private static void sure(Edges e) {
        e.edge("30 sure: one set", FOUR, "sure(8) = 14 : 1", "sure(2) = 2 : 13");
        e.edge("30 sure: the empty set", FOUR, "sure(0) = 0 : 15");
        e.edge("30 sure: all together", FOUR, "sure(9) = 15 : 0");
        // {0 2}, {0 3}; {0 1}, {2}, {3}.
        e.edge("30 sure: several sets", FOUR, "sure(4) = 1 : 2", "sure(3) = 0 : 0");
        e.edge("30 sure: one given up is not told", FOUR, "drop(2) = 3", "sure(4) = 9 : 2", "sure(0) = 0 : 11");
        e.edge("30 sure: all given up", "year w000 d000", "drop(0) = 0", "sure(0) = 0 : 0", "sure(1) = NOUGHT");
        e.edge("30 sure: all five, none of five", "year w000 d100 d100 d100 d100 d100", "sure(5) = 31 : 0",
                "sure(0) = 0 : 31");
        e.edge("30 sure NOUGHT: there is no set", FOUR, "sure(10) = NOUGHT", "sure(99) = NOUGHT");
        e.edge("30 sure STATE ahead of NOUGHT: no DEEDS", "sure(0) = STATE", "sure(1) = STATE");
        e.edge("30 sure: BAD ahead of STATE and NOUGHT", "sure(100) = BAD", "sure(-1) = BAD", "year w000 d100",
                "sure(100) = BAD", "sure(-1) = BAD");
        e.range(FOUR, "sure(_)", 0, 99);
    }

    private static void ask(Edges e) {
        e.edge("31 ask: one set, the first", FOUR, "ask(8) = 0 : 1", "ask(0) = 0 : 1");
        // {0 1}, {2}, {3}: with or without each of them two at most.
        e.edge("31 ask: like ones, the first", FOUR, "ask(3) = 0 : 2");
        // {0 2}, {0 3}: 0 is in both, 1 in none.
        e.edge("31 ask: the greater number is least", FOUR, "ask(4) = 2 : 1");
        // {0 1 2}, {3}; {0 1}, {2}: each of them is in one of both.
        e.edge("31 ask: two sets that have nothing in common", "year w000 d100 d200 d300 d600", "ask(6) = 0 : 1",
                "ask(3) = 0 : 1");
        e.edge("31 ask: all sets of five", "year w000 d000 d000 d000 d000 d000", "ask(0) = 0 : 16");
        e.edge("31 ask: the first not given up", "year w000 d000 d000 d000", "drop(0) = 2", "ask(0) = 1 : 2",
                "drop(1) = 1", "ask(0) = 2 : 1");
        e.edge("31 ask NONE: all are given up", "year w000 d100", "deed(0, 1) = 1 : 1", "drop(0) = 0", "ask(0) = NONE",
                "asked() = 1");
        e.edge("31 ask NOUGHT: there is no set", FOUR, "ask(10) = NOUGHT", "ask(99) = NOUGHT");
        e.edge("31 ask NOUGHT: all are given up, but what is refused is so ahead of NONE", "year w000 d100",
                "drop(0) = 0", "ask(1) = NOUGHT");
        e.edge("31 ask STATE ahead of NOUGHT: no DEEDS", "ask(0) = STATE", "ask(1) = STATE");
        e.edge("31 ask: BAD ahead of STATE and NOUGHT", "ask(100) = BAD", "ask(-1) = BAD", "year w000 d100",
                "ask(100) = BAD", "ask(-1) = BAD");
        e.range(FOUR, "ask(_)", 0, 99);
    }

    /** What the three calls by pairs have in common: which numbers, which ROWS are taken. */
    private static void pairs(Edges e) {
        for (String call : OF_PAIRS) {
            e.range("year w000 d000 d000 d000\nrow(0, 0) = 0", call + "(_, 0)", 0, 2);
            e.range("year w000 d000\nrow(0, 0) = 0\nrow(5, 0) = 0", call + "(0, _)", 0, 5);
        }
        e.edge("32 habits: a ROW without places is well", ONE, "row(0, 0) = 0", "habits(0, 0) = 1023 : 1023");
        e.edge("33 kinds: a ROW without places is well", ONE, "row(0, 0) = 0", "kinds(0, 0) = 63");
        e.edge("34 test: a ROW without places is well", "year w000 d513", "row(0, 0) = 0", "test(0, 0) = 6 : 1");
        e.edge("the least DAY, the least COST", "year w000 d000", "row 0 1 0", "habits(0, 0) = 1023 : 1",
                "kinds(0, 0) = 31", "test(0, 0) = 3 : 3");
        // 99 is divided by 3, and leaves 1, divided by 7.
        e.edge("the greatest DAY", "year w000 r500", "row 0 99 7", "habits(0, 0) = 1 : 32", "kinds(0, 0) = 2",
                "test(0, 0) = 1 : 1");
        e.edge("the greatest COST", "year w000 d900", "row 0 6 20", "habits(0, 0) = 0 : 0", "kinds(0, 0) = 0",
                "test(0, 0) = NONE");
        e.edge("the greatest COST that there can be", "year w000 s909", "row 0 6 18", "habits(0, 0) = 1 : 512",
                "kinds(0, 0) = 4", "test(0, 0) = 1 : 1");
        e.edge("the least COST ahead of another pair, the greatest DAY behind it", "year w000 d050", "row 0 1 0 99 0",
                "habits(0, 0) = 1023 : 63", "kinds(0, 0) = 13", "test(0, 0) = 1 : 3");
        e.edge("the greatest COST ahead of another pair, the least DAY behind it", "year w000 d050", "row 0 6 20 1 0",
                "habits(0, 0) = 0 : 0", "kinds(0, 0) = 0", "test(0, 0) = NONE");
        String twenty = "row(0, 40) = 40\n" + pairsOf(20, 0);
        e.edge("as many pairs as a ROW has", ONE, twenty, "habits(0, 0) = 2 : 256", "kinds(0, 0) = 0",
                "test(0, 0) = NONE", "lay(0, 39, 5) = 1", "habits(0, 0) = 0 : 0");
    }

    /** So many pairs: DAY 1, COST 4. */
    private static String pairsOf(int n, int r) {
        StringBuilder lines = new StringBuilder();
        for (int k = 0; k < n; k++) {
            lines.append("lay(" + r + ", " + 2 * k + ", 1) = 1\nlay(" + r + ", " + (2 * k + 1) + ", 4) = 1\n");
        }
        return lines.toString();
    }

    private static void pairsRefused(Edges e) {
        int[] promises = {32, 33, 34};
        for (int k = 0; k < 3; k++) {
            String name = promises[k] + " " + OF_PAIRS[k];
            String call = OF_PAIRS[k] + "(0, 0)";
            e.edge(name + " BAD: no DEEDS", "row(0, 0) = 0", call + " = BAD");
            e.edge(name + " NOTHING: a missing ROW", ONE, call + " = NOTHING");
            e.edge(name + " NOTHING: a ROW torn", ONE, "row(0, 0) = 0", "tear(0) = 1", call + " = NOTHING");
            for (int size : new int[] {1, 3, 39}) {
                e.edge(name + " SIZE: not by pairs, " + size, ONE, "row(0, " + size + ") = " + size, call + " = SIZE");
            }
            for (String pair : new String[] {"0 4", "-1 4", "100 4", "LOW 4", "HIGH 4", "1 -1", "1 21", "1 LOW",
                "1 HIGH", "0 -1", "100 21"}) {
                e.edge(name + " UNLIKE: " + pair, ONE, "row 0 " + pair, call + " = UNLIKE");
                e.edge(name + " UNLIKE: " + pair + " behind another pair", ONE, "row 0 1 4 " + pair,
                        call + " = UNLIKE");
                e.edge(name + " UNLIKE: " + pair + " ahead of another pair", ONE, "row 0 " + pair + " 1 4",
                        call + " = UNLIKE");
                e.edge(name + " UNLIKE: " + pair + " behind one that fits nothing", ONE, "row 0 1 20 " + pair,
                        call + " = UNLIKE");
            }
            e.edge(name + " UNLIKE: the last of twenty", ONE, "row(0, 40) = 40", pairsOf(20, 0), "lay(0, 38, 100) = 1",
                    call + " = UNLIKE", "lay(0, 38, 99) = 1", "lay(0, 39, 21) = 1", call + " = UNLIKE");
            e.edge(name + " UNLIKE: places of 0 are no DAYS", ONE, "row(0, 2) = 2", call + " = UNLIKE");
        }
    }

    private static void pairsInThisOrder(Edges e) {
        for (String call : OF_PAIRS) {
            e.edge(call + ": BAD ahead of NOTHING, SIZE, UNLIKE", ONE, call + "(1, 0) = BAD", call + "(-1, 0) = BAD",
                    call + "(0, 6) = BAD", "row 0 1", call + "(1, 0) = BAD", "row 0 0 0", call + "(1, 0) = BAD");
            e.edge(call + ": SIZE ahead of UNLIKE", ONE, "row 0 0", call + "(0, 0) = SIZE", "row 0 0 -1 100",
                    call + "(0, 0) = SIZE");
        }
    }

    private static void habits(Edges e) {
        e.edge("32 habits: one HABIT, one EFFORT", ONE, "row 0 1 4", "habits(0, 0) = 2 : 256");
        e.edge("32 habits: it COST nothing, the greatest HABIT too", ONE, "row 0 1 0", "habits(0, 0) = 992 : 31");
        e.edge("32 habits: the least HABIT, the greatest EFFORT", "year w000 d900", "row 0 1 9",
                "habits(0, 0) = 1 : 512");
        e.edge("32 habits: more than it can COST", ONE, "row 0 1 10", "habits(0, 0) = 0 : 0");
        e.edge("32 habits: all the while, so that two COSTS fit none", ONE, "row 0 1 4 1 3", "habits(0, 0) = 0 : 0");
        e.edge("32 habits: half, cut, two of each", "year w000 m540", "row 0 1 2", "habits(0, 0) = 3 : 768");
        e.edge("32 habits: in the rain and dry", "year w000 r540", "row 0 3 2 1 0", "habits(0, 0) = 992 : 31",
                "row 0 3 1", "habits(0, 0) = 0 : 0");
        e.edge("32 habits: by PULL", "year w000 s543", "row 0 6 7", "habits(0, 0) = 2 : 256", "row 0 13 7 5 4 7 4",
                "habits(0, 0) = 2 : 256", "row 0 6 2", "habits(0, 0) = 0 : 0");
        e.edge("32 habits: CHAIN as it is, 0", "year w000 f540", "row 0 1 0", "habits(0, 0) = 0 : 0", "row 0 1 1",
                "habits(0, 0) = 1008 : 63");
        e.edge("32 habits: CHAIN as it is, 1", "year w400 f540", "day(1, 0) = 1", "row 0 1 0",
                "habits(0, 0) = 1008 : 255");
        e.edge("32 habits: of one given up", ONE, "drop(0) = 0", "row 0 1 4", "habits(0, 0) = 2 : 256");
    }

    private static void kinds(Edges e) {
        e.edge("33 kinds: none", "year w000 d513", "row 0 1 9", "kinds(0, 0) = 0");
        // On a dry DAY 4 4 4 2 3 3, in the rain 4 6 4 2 5 3, on DAY 13 4 4 7 2 3 3.
        e.edge("33 kinds: several", "year w000 d513", "row 0 1 4", "kinds(0, 0) = 7", "row 0 1 3", "kinds(0, 0) = 48");
        e.edge("33 kinds: each alone", "year w000 d513", "row 0 3 4 13 4", "kinds(0, 0) = 1", "row 0 3 6",
                "kinds(0, 0) = 2", "row 0 13 7", "kinds(0, 0) = 4", "row 0 1 2", "kinds(0, 0) = 8", "row 0 3 5",
                "kinds(0, 0) = 16", "row 0 3 3", "kinds(0, 0) = 32");
        e.edge("33 kinds: whatever it is itself", "year w000 f513 s513", "row 0 3 6", "kinds(0, 0) = 2",
                "kinds(1, 0) = 2");
        e.edge("33 kinds: all else as it is, HABIT and CHAIN", "year w400 f711", "day(1, 0) = 1", "row 0 1 2",
                "kinds(0, 0) = 40");
        e.edge("33 kinds: all alike in nothing but FRENCH", "year w000 d000", "row 0 1 0", "kinds(0, 0) = 31",
                "row 0 1 1", "kinds(0, 0) = 32");
    }

    private static void test(Edges e) {
        e.edge("34 test NONE: there is no KIND", "year w000 d513", "row 0 1 9", "deed(0, 1) = 1 : 5",
                "test(0, 0) = NONE", "asked() = 5");
        e.edge("34 test: one KIND, the first DAY", "year w000 d513", "row 0 1 2", "test(0, 0) = 1 : 1");
        e.edge("34 test: one KIND, a DEED", "year w000 d511", "row 0 3 4 6 4", "kinds(0, 0) = 1", "test(0, 0) = 1 : 1");
        e.edge("34 test: alike on all DAYS, the first", "year w000 d510", "row 0 3 4", "test(0, 0) = 1 : 2");
        e.edge("34 test: apart in the rain, the first such DAY", "year w000 d513", "row 0 1 3", "test(0, 0) = 3 : 1");
        e.edge("34 test: apart by PULL, the first such DAY", "year w000 d511", "row 0 3 4", "test(0, 0) = 6 : 1");
        // On DAY 1 5 5 5 2 4 3, on DAY 3 5 7 5 2 6 3, on DAY 6 5 7 7 2 6 3, on DAY 13 5 5 7 2 4 3.
        e.edge("34 test: the greatest part of all KINDS", "year w000 d502", "row(0, 0) = 0", "test(0, 0) = 3 : 2");
        // On DAY 1 0 0 0 0 0 1, on DAY 3 0 2 0 0 1 1.
        e.edge("34 test: the greatest part is least", "year w000 d000", "row(0, 0) = 0", "test(0, 0) = 3 : 3");
        e.edge("34 test: CHAIN as it is", "year w400 d000", "day(1, 0) = 1", "row(0, 0) = 0", "test(0, 0) = 3 : 4");
    }
}
