/** The boundary cases of promises 35 to 39: spare, tempt, odds, mid, lots. */
final class EdgesOfChancesTest {
    private static final String FREE = "year w409 d000 d000 d000 d000 d000\n";

    public static void main(String[] args) {
        Edges e = new Edges();
        spare(e);
        spareNone(e);
        tempt(e);
        temptWhoCan(e);
        odds(e);
        oddsOfWhich(e);
        mid(e);
        lots(e);
        lotsByHand(e);
        lotsRefused(e);
        e.end("EdgesOfChancesTest");
    }

    private static void spare(Edges e) {
        // SLIPPING would take 1, 0, 2, 1, 1.
        String five = "year w000 d510 d500 s520 s510 f530\n";
        e.edge("35 spare: none", five, "spare(0) = 0 : 0");
        e.edge("35 spare: one, that saves most", five, "spare(1) = 4 : 2");
        e.edge("35 spare: of like ones the least number", five, "spare(2) = 5 : 3", "spare(3) = 13 : 4");
        e.edge("35 spare: all five", five, "spare(5) = 31 : 5");
        e.edge("35 spare: nothing would be lost, the least number", "year w000 d500 s500 f500", "spare(1) = 1 : 0",
                "spare(2) = 3 : 0", "spare(3) = 7 : 0");
        e.edge("35 spare: a SUGAR of HABIT 1 loses 1, of 2 and 9 2", "year w000 d010 s010", "spare(1) = 1 : 1",
                "year w000 d010 s020", "spare(1) = 2 : 2", "year w000 d090 s090", "spare(1) = 2 : 2");
        e.edge("35 spare: OFFS aside, none and fewer than n", five, "count(4) = 0", "spare(3) = 13 : 4",
                "year w001 d010 d010", "spare(2) = 3 : 2");
        e.edge("35 spare: of those not given up", five, "drop(2) = 4", "spare(1) = 1 : 1", "spare(4) = 27 : 3");
        e.range(five, "spare(_)", 0, 5);
    }

    private static void spareNone(Edges e) {
        String two = "year w000 d510 d510\n";
        e.edge("35 spare NONE: one more than there are", two, "spare(2) = 3 : 2", "spare(3) = NONE", "spare(5) = NONE",
                "asked() = 2");
        e.edge("35 spare NONE: one more than there are not given up", two, "drop(0) = 1", "spare(1) = 2 : 1",
                "spare(2) = NONE");
        e.edge("35 spare NONE: all given up", two, "drop(0) = 1", "drop(1) = 0", "spare(1) = NONE",
                "spare(0) = 0 : 0");
        e.edge("35 spare STATE: no DEEDS", "spare(0) = STATE", "spare(5) = STATE");
        e.edge("35 spare: BAD ahead of STATE", "spare(6) = BAD", "spare(-1) = BAD");
    }

    private static void tempt(Edges e) {
        e.edge("36 tempt: no turns", FREE, "tempt(0) = 0");
        e.edge("36 tempt: the first alone", FREE, "tempt(1) = 0");
        e.edge("36 tempt: by turns, the first, the second, ..", FREE, "tempt(2) = 1", "tempt(3) = 1", "tempt(4) = 2",
                "tempt(5) = 2");
        e.edge("36 tempt: the first wants few", "year w010 d100 d900", "tempt(2) = 0");
        e.edge("36 tempt: the second wants many", "year w020 d200 d100 d100 d100 d100", "tempt(4) = 2");
        e.edge("36 tempt: what is left of the WILL lasts, just", "year w050 d500 d500", "tempt(2) = 1");
        e.edge("36 tempt: it is 1 too little", "year w040 d500 d500", "tempt(2) = 0");
        e.edge("36 tempt: for two, just, and 1 too little", "year w040 d200 d200 d200 d200", "tempt(4) = 2",
                "will(3) = 4", "tempt(4) = 1");
        e.edge("36 tempt: the least WILL, what COSTS nothing", "year w000 d000 d000", "tempt(2) = 1");
        e.edge("36 tempt STATE: no DEEDS", "tempt(0) = STATE", "tempt(5) = STATE");
        e.edge("36 tempt: BAD ahead of STATE", "tempt(6) = BAD", "tempt(-1) = BAD");
        e.range(FREE, "tempt(_)", 0, 5);
    }

    private static void temptWhoCan(Edges e) {
        e.edge("36 tempt: one DEED, tempted away", "year w400 d000", "tempt(2) = 0", "tempt(5) = 0");
        e.edge("36 tempt: two DEEDS, none left from turn 3 on", "year w400 d000 d000", "tempt(2) = 1", "tempt(3) = 1",
                "tempt(5) = 1");
        e.edge("36 tempt: three DEEDS, none left at turn 4", "year w400 d000 d000 d000", "tempt(4) = 1",
                "tempt(5) = 1");
        e.edge("36 tempt: for none the WILL lasts", "year w000 d100 d100 d100", "tempt(5) = 0");
        e.edge("36 tempt: of those not given up", "year w400 d000 d000 d000", "drop(1) = 2", "tempt(4) = 1",
                "drop(0) = 1", "tempt(4) = 0");
        e.edge("36 tempt: all given up", "year w400 d000", "drop(0) = 0", "tempt(5) = 0");
    }

    private static void odds(Edges e) {
        e.edge("37 odds: the least p, as many as are KEPT", FREE, "odds(5, 0) = 1 : 1/1", "odds(0, 0) = 1 : 1/1");
        e.edge("37 odds: the greatest p, 1 or more", FREE, "odds(1, 12) = 1 : 0/1", "odds(5, 12) = 1 : 0/1");
        e.edge("37 odds: the greatest p, 0 or more", FREE, "odds(0, 12) = 1 : 1/1");
        e.edge("37 odds: 1 of 12, all five: 11 by 12 to the fifth", FREE, "odds(5, 1) = 1 : 161051/248832");
        e.edge("37 odds: 11 of 12, all five: 1 by 12 to the fifth", FREE, "odds(5, 11) = 1 : 1/248832");
        e.edge("37 odds: 11 of 12, 1 or more", FREE, "odds(1, 11) = 1 : 87781/248832");
        e.edge("37 odds: v or more, of 32", FREE, "odds(5, 6) = 1 : 1/32", "odds(4, 6) = 1 : 3/16",
                "odds(3, 6) = 1 : 1/2", "odds(2, 6) = 1 : 13/16", "odds(1, 6) = 1 : 31/32", "odds(0, 6) = 1 : 1/1");
        int[][] terms = {{1, 1}, {11, 12}, {5, 6}, {3, 4}, {2, 3}, {7, 12}, {1, 2}, {5, 12}, {1, 3}, {1, 4}, {1, 6},
            {1, 12}, {0, 1}};
        for (int p = 0; p <= 12; p++) {
            e.edge("37 odds: lowest terms, 12 less " + p + " by 12", "year w000 d000",
                    "odds(1, " + p + ") = 1 : " + terms[p][0] + "/" + terms[p][1]);
        }
        e.edge("37 odds STATE: no DEEDS", "odds(0, 0) = STATE", "odds(5, 12) = STATE");
        e.edge("37 odds: BAD ahead of STATE", "odds(6, 0) = BAD", "odds(-1, 0) = BAD", "odds(0, 13) = BAD",
                "odds(0, -1) = BAD");
        e.range(FREE, "odds(_, 3)", 0, 5);
        e.range(FREE, "odds(3, _)", 0, 12);
    }

    private static void oddsOfWhich(Edges e) {
        e.edge("37 odds: more than RULE 0 KEEPS", "year w030 d100 d200 d300", "odds(2, 0) = 1 : 1/1",
                "odds(3, 0) = 1 : 0/1", "odds(5, 0) = 1 : 0/1");
        e.edge("37 odds: RULE 0, not another one", "year w030 d300 d200 d100", "odds(2, 6) = 1 : 1/4");
        e.edge("37 odds: none is KEPT", "year w000 d100", "odds(0, 6) = 1 : 1/1", "odds(1, 6) = 1 : 0/1");
        e.edge("37 odds: of those not given up", "year w400 d000 d000", "drop(0) = 1", "odds(1, 6) = 1 : 1/2",
                "odds(2, 6) = 1 : 0/1");
        e.edge("37 odds: all given up", "year w400 d000", "drop(0) = 0", "odds(0, 6) = 1 : 1/1",
                "odds(1, 6) = 1 : 0/1");
    }

    private static void mid(Edges e) {
        e.edge("38 mid: the least p, KEPT", "year w400 d050", "mid(0) = 1 : 6/1");
        e.edge("38 mid: the greatest p, SLIPPED", "year w400 d050", "mid(12) = 1 : 4/1");
        e.edge("38 mid: lowest terms", "year w400 d050", "mid(6) = 1 : 5/1", "mid(1) = 1 : 35/6", "mid(11) = 1 : 25/6",
                "mid(3) = 1 : 11/2", "mid(5) = 1 : 31/6");
        e.edge("38 mid: 0 by 1", "year w400 d000", "mid(12) = 1 : 0/1", "mid(6) = 1 : 1/2", "mid(11) = 1 : 1/12");
        e.edge("38 mid: 9 at most", "year w400 d090", "mid(0) = 1 : 9/1", "mid(6) = 1 : 17/2", "year w400 f080",
                "mid(0) = 1 : 9/1", "mid(6) = 1 : 8/1");
        e.edge("38 mid: 0 at least, of a SUGAR", "year w400 s010", "mid(12) = 1 : 0/1", "mid(6) = 1 : 1/1",
                "year w400 s050", "mid(6) = 1 : 9/2");
        e.edge("38 mid: 2 more of a SMALL one", "year w400 m000", "mid(0) = 1 : 2/1", "mid(3) = 1 : 3/2");
        e.edge("38 mid: those that are not KEPT slip, by any p", "year w000 d950", "mid(0) = 1 : 4/1",
                "mid(6) = 1 : 4/1", "mid(12) = 1 : 4/1");
        e.edge("38 mid: all together", "year w400 d050 d050 d050 d050 d050", "mid(0) = 1 : 30/1", "mid(12) = 1 : 20/1",
                "mid(1) = 1 : 175/6");
        e.edge("38 mid: the greatest", "year w400 d090 d090 d090 d090 d090", "mid(0) = 1 : 45/1");
        e.edge("38 mid: of those not given up", "year w400 d050 d090", "drop(1) = 1", "mid(0) = 1 : 6/1");
        e.edge("38 mid: all given up", "year w400 d050", "drop(0) = 0", "mid(0) = 1 : 0/1", "mid(7) = 1 : 0/1");
        e.edge("38 mid STATE: no DEEDS", "mid(0) = STATE", "mid(12) = STATE");
        e.edge("38 mid: BAD ahead of STATE", "mid(13) = BAD", "mid(-1) = BAD");
        e.range(FREE, "mid(_)", 0, 12);
    }

    private static void lots(Edges e) {
        // From seed 1 come 48271 (RULE 3; by 8 it is 6033) and 182605794 (RULE 2; by 8 it is 22825724).
        e.edge("39 lots: one DAY, the least seed", FREE, "lots(1, 1) = 4", "count(1) = 2", "count(2) = 1",
                "deed(3, 7) = 1 : 0", "deed(4, 7) = 1 : 1", "deed(0, 7) = 1 : 1");
        e.edge("39 lots: two DAYS, the second from the first", FREE, "lots(2, 1) = 8", "count(1) = 3", "count(2) = 2",
                "deed(3, 7) = 1 : 1", "deed(3, 5) = 1 : 1", "deed(4, 7) = 1 : 1", "deed(4, 5) = 1 : 0",
                "deed(0, 5) = 1 : 2");
        // 2147483646 is -1, from which comes -48271, that is 2147435376 (RULE 0; by 8 it is 268429422).
        e.edge("39 lots: the greatest seed", FREE, "lots(1, 2147483646) = 4", "deed(2, 7) = 1 : 0",
                "deed(3, 7) = 1 : 1");
        e.edge("39 lots: 20 DAYS", FREE, "lots(20, 1) = 80", "count(1) = 21", "count(2) = 20", "count(4) = 9");
        e.edge("39 lots: truly, they can be undone one by one", FREE, "lots(3, 1) = 12", "undo(2) = 1", "count(1) = 3",
                "undo(1) = 1", "count(1) = 2", "deed(3, 7) = 1 : 0", "undo(0) = 1", "deed(0, 7) = 1 : 0");
        e.edge("39 lots: the seed is told anew each time", FREE, "lots(1, 1) = 4", "lots(1, 1) = 4",
                "deed(3, 7) = 1 : 0", "deed(4, 7) = 1 : 2");
    }

    /** From the seeds 4, 3, 2, 1 come RULES 0, 1, 2, 3, and by 8 24135, 18101, 12067, 6033. */
    private static void lotsByHand(Edges e) {
        // They COST 3, 2, 7, 3, 3; HABITS are 2, 2, 2, 3, 1; DEED 3 has a CHAIN: each RULE KEEPS another one.
        String year = "year w400 d530 d430 d930 d620 d420\nday(8, 0) = 1\nwill(3) = 40\n";
        int[] kept = {1, 0, 3, 4};
        for (int rule = 0; rule < 4; rule++) {
            StringBuilder seen = new StringBuilder();
            for (int i = 0; i < 5; i++) {
                int times = (i == 3 ? 1 : 0) + (i == kept[rule] ? 1 : 0);
                seen.append("deed(" + i + ", 7) = 1 : " + times + "\n");
            }
            e.edge("39 lots: by RULE " + rule, year, "lots(1, " + (4 - rule) + ") = 1", seen.toString());
        }
        e.edge("39 lots: it slips, if it was to be KEPT", "year w400 d000 d000 d000", "lots(1, 1) = 2",
                "deed(0, 7) = 1 : 0");
        e.edge("39 lots: it was not to be KEPT", "year w000 d000 d100", "lots(1, 1) = 1", "deed(0, 7) = 1 : 1");
        e.edge("39 lots: one DEED alone always slips", "year w400 d000", "lots(20, 1) = 0", "deed(0, 7) = 1 : 0");
        e.edge("39 lots: how many there are, given up or not", "year w400 d000 d000", "drop(0) = 1", "lots(1, 1) = 0",
                "year w400 d000 d000", "drop(1) = 1", "lots(1, 1) = 1");
        e.edge("39 lots: all given up, DAYS go by", "year w400 d050", "drop(0) = 0", "lots(20, 1) = 0", "count(1) = 21",
                "deed(0, 2) = 1 : 5");
    }

    private static void lotsRefused(Edges e) {
        String days = "x day(0, 0) = 0\n";
        e.edge("39 lots: up to the 40th ACT", FREE, "20 " + days, "lots(20, 1) = 80", "count(2) = 40");
        e.edge("39 lots FULL: one more than 40 ACTS", FREE, "21 " + days, "lots(20, 1) = FULL", "count(2) = 21",
                "lots(19, 1) = 76");
        e.edge("39 lots FULL: 40 ACTS", FREE, "40 " + days, "lots(1, 1) = FULL", "lots(20, 1) = FULL");
        e.edge("39 lots STATE: no DEEDS", "lots(1, 1) = STATE", "lots(20, 2147483646) = STATE", "count(1) = 1");
        e.edge("39 lots: BAD ahead of STATE", "lots(0, 1) = BAD", "lots(21, 1) = BAD", "lots(1, 0) = BAD",
                "lots(1, HIGH) = BAD");
        e.range(FREE, "lots(_, 1)", 1, 20);
        e.range(FREE, "lots(1, _)", 1, 2147483646);
    }
}
