/** The boundary cases of promises 14 to 20, and of what is told of ACTS: day, drop, take, will, undo, keep, on. */
final class EdgesOfActsTest {
    private static final String THREE = "year w063 d302 d202 d102\n";

    public static void main(String[] args) {
        Edges e = new Edges();
        day(e);
        dayOff(e);
        dayBad(e);
        daySpent(e);
        drop(e);
        take(e);
        will(e);
        fortyActs(e);
        fullLast(e);
        undo(e);
        undoOf(e);
        keep(e);
        on(e);
        e.end("EdgesOfActsTest");
    }

    private static void day(Edges e) {
        e.edge("14 day: how many are KEPT, none", THREE, "day(0, 0) = 0", "count(1) = 2", "count(2) = 1");
        e.edge("14 day: how many are KEPT, all", THREE, "day(7, 0) = 3", "count(1) = 2", "count(2) = 1");
        e.edge("14 day: how many are KEPT, all five", "year w400 d100 d100 d100 d100 d100", "day(31, 0) = 5",
                "deed(4, 7) = 1 : 1");
        e.edge("14 day: those neither KEPT nor OFF slip", "year w409 d090 d090 d090", "day(1, 2) = 1",
                "deed(0, 5) = 1 : 1", "deed(1, 2) = 1 : 9", "deed(2, 2) = 1 : 8");
        e.edge("DAY 1 is at first, and 1 more by a DAY", "year w400 d000", "count(1) = 1", "day(0, 0) = 0",
                "count(1) = 2", "day(1, 0) = 1", "count(1) = 3");
    }

    private static void dayOff(Edges e) {
        e.edge("14 day: OFFS are fewer by these", "year w009 d000 d000 d000 d000 d000", "day(0, 31) = 0",
                "count(4) = 4", "day(0, 15) = 0", "count(4) = 0");
        e.edge("14 day SPENT: too few OFFS, one more than there are", "year w002 d000 d000 d000", "day(0, 7) = SPENT",
                "count(4) = 2", "day(0, 6) = 0", "count(4) = 0");
        e.edge("14 day SPENT: no OFFS left", "year w001 d000", "day(0, 1) = 0", "day(0, 1) = SPENT", "day(0, 0) = 0");
        e.edge("14 day SPENT: no OFFS at first", "year w000 d000", "day(0, 1) = SPENT", "day(1, 0) = 1");
        e.edge("14 day: none OFF takes none", "year w001 d000", "day(1, 0) = 1", "day(0, 0) = 0", "count(4) = 1");
        e.edge("14 day: one OFF COSTS nothing", "year w001 d900", "day(0, 1) = 0");
    }

    private static void dayBad(Edges e) {
        for (String call : new String[] {"day(_, 0)", "day(0, _)"}) {
            e.range("year w409 d000", call, 0, 1);
            e.range("year w409 d000 d000 d000", call, 0, 7);
            e.range("year w409 d000 d000 d000 d000 d000", call, 0, 31);
        }
        e.edge("14 day BAD: one both", "year w409 d000 d000 d000", "day(1, 1) = BAD", "day(5, 4) = BAD",
                "day(7, 7) = BAD", "day(5, 2) = 2");
        e.edge("14 day BAD: one given up, KEPT", "year w409 d000 d000", "drop(1) = 1", "day(2, 0) = BAD",
                "day(3, 0) = BAD", "day(1, 0) = 1");
        e.edge("14 day BAD: one given up, OFF", "year w409 d000 d000", "drop(1) = 1", "day(0, 2) = BAD",
                "day(0, 3) = BAD", "day(0, 1) = 0");
        e.edge("14 day: taken up again it is none given up", "year w409 d000 d000", "drop(1) = 1", "take(1) = 2",
                "day(2, 1) = 1");
        e.edge("14 day: all given up, a DAY goes by", "year w409 d050", "drop(0) = 0", "day(0, 0) = 0", "count(1) = 2",
                "deed(0, 2) = 1 : 5");
        e.edge("14 day BAD ahead of STATE: sets of no DEEDS", "day(1, 0) = BAD", "day(0, 1) = BAD", "day(-1, 0) = BAD");
        e.edge("14 day BAD ahead of SPENT", "year w000 d900 d900", "day(4, 0) = BAD", "day(1, 1) = BAD",
                "day(1, 4) = BAD", "drop(1) = 1", "day(3, 0) = BAD");
        e.edge("14 day STATE: no DEEDS", "day(0, 0) = STATE", "count(1) = 1", "count(2) = 0");
    }

    private static void daySpent(Edges e) {
        e.edge("14 day: they COST as much as the WILL", THREE, "day(7, 0) = 3");
        e.edge("14 day SPENT: they COST 1 more than the WILL", "year w053 d302 d202 d102", "day(7, 0) = SPENT",
                "day(3, 0) = 2");
        e.edge("14 day SPENT: a WILL of 0", "year w003 d100 d000", "day(1, 0) = SPENT", "day(3, 0) = SPENT",
                "day(2, 0) = 1");
        e.edge("14 day: the greatest WILL, just", "year w400 d900 d900 d900 d900 d400", "cost(31) = 40",
                "day(31, 0) = 5");
        e.edge("14 day SPENT: 1 more than the greatest WILL", "year w400 d900 d900 d900 d900 d500", "cost(31) = 41",
                "day(31, 0) = SPENT", "day(15, 0) = 4");
        e.edge("14 day: the WILL is the same on the next DAY", "year w050 d900 d550", "day(2, 0) = 1", "will(8) = 5",
                "day(1, 0) = SPENT", "will(9) = 8", "day(1, 0) = 1", "day(1, 0) = 1", "count(3) = 9");
    }

    private static void drop(Edges e) {
        e.edge("15 drop: how many are left, down to none", THREE, "drop(1) = 2", "drop(0) = 1", "drop(2) = 0",
                "count(5) = 0", "count(2) = 3", "count(1) = 1");
        e.edge("15 drop: of five", "year w000 d000 d000 d000 d000 d000", "drop(4) = 4", "count(5) = 15");
        e.edge("15 drop: CHAIN, HABIT stay", "year w400 f000", "day(1, 0) = 1", "drop(0) = 0",
                "deed(0, 5) = 1 : 1", "deed(0, 2) = 1 : 2");
        e.edge("15 drop STATE: it is", THREE, "drop(1) = 2", "drop(1) = STATE", "count(2) = 1", "count(5) = 5");
        e.edge("15 drop BAD: no DEEDS", "drop(0) = BAD");
        e.range(THREE, "drop(_)", 0, 2);
        e.range("year w000 d000", "drop(_)", 0, 0);
    }

    private static void take(Edges e) {
        e.edge("16 take: how many are there then", THREE, "drop(0) = 2", "drop(1) = 1", "drop(2) = 0", "take(2) = 1",
                "take(0) = 2", "take(1) = 3", "count(5) = 7", "count(2) = 6", "count(1) = 1");
        e.edge("16 take: CHAIN 0, HABIT stays", "year w400 f000", "day(1, 0) = 1", "drop(0) = 0", "take(0) = 1",
                "deed(0, 5) = 1 : 0", "deed(0, 2) = 1 : 2", "deed(0, 7) = 1 : 1");
        e.edge("16 take STATE: it is not given up", THREE, "take(1) = STATE", "drop(1) = 2", "take(0) = STATE",
                "take(1) = 3", "take(1) = STATE", "count(2) = 2");
        e.edge("16 take BAD: no DEEDS", "take(0) = BAD");
        e.range(THREE + "drop(0) = 2\ndrop(2) = 1", "take(_)", 0, 2);
    }

    private static void will(Edges e) {
        e.edge("17 will: the least", "year w010 d000", "will(0) = 1", "count(3) = 0", "count(2) = 1", "count(1) = 1");
        e.edge("17 will: the greatest", "year w010 d000", "will(40) = 1", "count(3) = 40");
        e.edge("17 will STATE: it is so", "year w010 d000", "will(1) = STATE", "will(2) = 1", "will(2) = STATE",
                "will(1) = 2", "count(2) = 2");
        e.edge("17 will STATE: it is so, the least and the greatest", "year w000 d000", "will(0) = STATE",
                "will(40) = 0", "will(40) = STATE");
        e.edge("17 will STATE: no DEEDS", "will(0) = STATE", "will(1) = STATE", "will(40) = STATE", "count(3) = 0");
        e.edge("17 will BAD ahead of STATE", "will(41) = BAD", "will(-1) = BAD");
        e.range("year w010 d000", "will(_)", 0, 40);
    }

    private static void fortyActs(Edges e) {
        String year = "year w051 d500 d000\ndrop(1) = 1\n38 x day(0, 0) = 0\ncount(2) = 39\n";
        String[] acts = {"day(1, 0)", "drop(0)", "take(1)", "will(6)", "lots(1, 1)"};
        int[] answers = {1, 0, 2, 5, 1};
        for (int k = 0; k < acts.length; k++) {
            e.edge("40 ACTS at most: the 40th, then FULL: " + acts[k], year, acts[k] + " = " + answers[k],
                    "count(2) = 40", "day(0, 0) = FULL", "lots(1, 1) = FULL", "count(2) = 40");
        }
        String full = year + "day(0, 0) = 0\ncount(2) = 40\n";
        for (String act : acts) {
            e.edge("40 ACTS at most: the 41st: " + act, full, act + " = FULL", "count(2) = 40", "count(1) = 40",
                    "count(3) = 5", "count(5) = 1");
        }
        e.edge("40 ACTS at most: undone there is room again", full, "undo(39) = 1", "day(1, 0) = 1",
                "day(1, 0) = FULL");
        e.edge("40 ACTS at most: undoing, keeping, going on are none", full, "undo(40) = 0", "keep(0) = 40",
                "on(0) = 40", "count(2) = 40", "undo(0) = 40", "on(0) = 40", "day(0, 0) = FULL");
        e.edge("40 ACTS at most: a new YEAR has none", full, "year(0) = 2", "day(0, 0) = 0", "count(2) = 1");
        e.edge("40 ACTS at most: what is aside is none", full, "better(60) = 0", "till(0) = 5", "plan(3, 0) = 3",
                "least(0, 30) = 5", "chain(0, 60, 0) = 60", "count(2) = 40");
    }

    private static void fullLast(Edges e) {
        String full = "year w051 d500 d000\ndrop(1) = 1\n39 x day(0, 0) = 0\n";
        e.edge("14 day: FULL last", full, "will(4) = FULL", "day(0, 3) = BAD", "day(4, 0) = BAD", "day(1, 0) = FULL",
                "undo(39) = 1", "will(4) = 5", "day(1, 0) = SPENT", "day(0, 0) = FULL");
        e.edge("14 day: FULL last, behind too few OFFS", "year w051 d500", "day(0, 1) = 0", "39 x day(0, 0) = 0",
                "day(0, 1) = SPENT", "day(0, 0) = FULL");
        e.edge("15 drop: FULL last", full, "drop(2) = BAD", "drop(1) = STATE", "drop(0) = FULL");
        e.edge("16 take: FULL last", full, "take(2) = BAD", "take(0) = STATE", "take(1) = FULL");
        e.edge("17 will: FULL last", full, "will(41) = BAD", "will(5) = STATE", "will(6) = FULL");
        e.edge("39 lots: FULL last", full, "lots(0, 1) = BAD", "lots(21, 1) = BAD", "lots(1, 0) = BAD",
                "lots(1, 1) = FULL");
    }

    private static void undo(Edges e) {
        String three = THREE + "day(1, 0) = 1\ndrop(2) = 2\nwill(9) = 6\n";
        e.edge("18 undo: n 0, all", three, "undo(0) = 3", "count(2) = 0", "count(1) = 1", "count(3) = 6",
                "count(5) = 7");
        e.edge("18 undo: all but the first", three, "undo(1) = 2", "count(2) = 1", "count(1) = 2", "count(5) = 7");
        e.edge("18 undo: the last alone", three, "undo(2) = 1", "count(3) = 6", "count(5) = 3");
        e.edge("18 undo: how many there are, then 0", three, "undo(3) = 0", "count(2) = 3", "count(3) = 9");
        e.edge("18 undo BAD: one more than there are", three, "undo(4) = BAD", "undo(40) = BAD", "undo(2) = 1",
                "undo(3) = BAD");
        e.edge("18 undo BAD: one below", three, "undo(-1) = BAD");
        e.edge("18 undo: no ACTS", THREE, "undo(0) = 0", "undo(1) = BAD");
        e.edge("18 undo: no DEEDS", "undo(0) = 0", "undo(1) = BAD", "undo(-1) = BAD");
        e.edge("18 undo: 40 ACTS", "year w400 d900", "40 x day(1, 0) = 1", "undo(41) = BAD", "undo(40) = 0",
                "undo(0) = 40", "deed(0, 2) = 1 : 0", "deed(0, 7) = 1 : 0");
        e.range(three, "undo(_)", 0, 3);
    }

    /** Each kind of ACT undone by itself, with all that it had changed. */
    private static void undoOf(Edges e) {
        e.edge("18 undo of a DAY: HABIT, CHAIN, how often, OFFS, the DAY", "year w403 d500 s590 d050",
                "day(1, 4) = 1", "day(2, 1) = 1", "undo(1) = 1", "count(1) = 2", "count(4) = 2",
                "deed(0, 2) = 1 : 1", "deed(0, 5) = 1 : 1", "deed(0, 7) = 1 : 1", "deed(1, 2) = 1 : 7",
                "deed(1, 5) = 1 : 0", "deed(2, 2) = 1 : 5", "undo(0) = 1", "count(4) = 3", "deed(1, 2) = 1 : 9");
        e.edge("18 undo of what 9 and 0 had cut", "year w400 d090 d000", "day(1, 0) = 1", "undo(0) = 1",
                "deed(0, 2) = 1 : 9", "deed(1, 2) = 1 : 0");
        e.edge("18 undo of one given up", THREE, "drop(1) = 2", "undo(0) = 1", "count(5) = 7", "take(1) = STATE");
        e.edge("18 undo of one taken up again: given up, its CHAIN", "year w400 d000", "day(1, 0) = 1", "drop(0) = 0",
                "take(0) = 1", "deed(0, 5) = 1 : 0", "undo(2) = 1", "deed(0, 6) = 1 : 1", "deed(0, 5) = 1 : 1");
        e.edge("18 undo of the WILL", "year w120 d000", "will(3) = 12", "will(4) = 3", "undo(1) = 1", "count(3) = 3",
                "undo(0) = 1", "count(3) = 12");
    }

    private static void keep(Edges e) {
        e.edge("19 keep: how many ACTS, none", THREE, "keep(0) = 0", "count(10) = 1");
        e.edge("19 keep: how many ACTS, 40", "year w400 d000", "40 x day(1, 0) = 1", "keep(2) = 40", "count(10) = 1");
        e.edge("19 keep: three places, one anew", THREE, "keep(0) = 0", "keep(1) = 0", "keep(2) = 0", "count(10) = 3",
                "day(0, 0) = 0", "keep(1) = 1", "count(10) = 3", "on(0) = 0", "on(1) = 1", "on(2) = 0");
        e.edge("19 keep STATE: no DEEDS", "keep(0) = STATE", "keep(2) = STATE", "count(10) = 0", "on(0) = NOTHING");
        e.edge("19 keep: BAD ahead of STATE", "keep(3) = BAD", "keep(-1) = BAD");
        e.range(THREE, "keep(_)", 0, 2);
    }

    private static void on(Edges e) {
        String kept = "year w093 d302 f202 d102\nday(2, 4) = 1\ndrop(0) = 2\nwill(7) = 9\nkeep(1) = 3\n";
        e.edge("20 on: the YEAR as it was kept, ACTS", kept, "undo(0) = 3", "on(1) = 3", "count(1) = 2", "count(2) = 3",
                "count(3) = 7", "count(4) = 2", "count(5) = 6", "deed(1, 2) = 1 : 2", "deed(1, 5) = 1 : 1",
                "deed(1, 7) = 1 : 1", "undo(0) = 3", "count(3) = 9", "count(5) = 7");
        e.edge("20 on: ACTS done since are gone", kept, "20 x day(0, 0) = 0", "take(0) = 3", "on(1) = 3",
                "count(2) = 3", "undo(4) = BAD", "undo(3) = 0");
        e.edge("20 on: again and again", kept, "day(0, 0) = 0", "on(1) = 3", "day(2, 0) = 1", "on(1) = 3",
                "count(1) = 2", "deed(1, 5) = 1 : 1");
        e.edge("20 on: the kept one does not change with the YEAR", kept, "on(1) = 3", "undo(1) = 2", "will(1) = 9",
                "on(1) = 3", "count(3) = 7", "undo(2) = 1", "count(3) = 9");
        e.edge("20 on: kept without ACTS", THREE, "keep(2) = 0", "day(7, 0) = 3", "on(2) = 0", "count(1) = 1",
                "count(2) = 0");
        e.edge("20 on: kept with 40 ACTS", "year w400 d000", "40 x day(1, 0) = 1", "keep(0) = 40", "undo(0) = 40",
                "on(0) = 40", "deed(0, 7) = 1 : 40", "day(0, 0) = FULL", "undo(39) = 1");
        e.edge("20 on NOTHING: none kept there", kept, "on(0) = NOTHING", "on(2) = NOTHING", "count(2) = 3");
        e.edge("20 on NOTHING: no DEEDS", "on(0) = NOTHING", "on(1) = NOTHING", "on(2) = NOTHING");
        e.edge("20 on: what refused calls leave of a kept YEAR", kept, "keep(3) = BAD", "keep(-1) = BAD",
                "text 1 w0", "year(1) = STATE", "undo(0) = 3", "on(1) = 3", "count(3) = 7");
        e.range(THREE + "keep(0) = 0\nkeep(2) = 0", "on(_)", 0, 2);
    }
}
