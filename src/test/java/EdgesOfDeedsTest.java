/** The boundary cases of promises 12 and 13, and of what is told of COST, HABIT, CHAIN: deed, mark. */
final class EdgesOfDeedsTest {
    public static void main(String[] args) {
        Edges e = new Edges();
        effort(e);
        runs(e);
        sugar(e);
        smallOnes(e);
        kept(e);
        slipped(e);
        deed(e);
        markOfRuns(e);
        markOfOthers(e);
        markRefused(e);
        e.end("EdgesOfDeedsTest");
    }

    private static void effort(Edges e) {
        e.edge("a DEED COSTS EFFORT less HABIT", "year w000 d530", "deed(0, 4) = 1 : 2");
        e.edge("a DEED COSTS EFFORT less HABIT, the greatest", "year w000 d900", "deed(0, 4) = 1 : 9");
        e.edge("0 at least: HABIT one less than EFFORT", "year w000 d540", "deed(0, 4) = 1 : 1");
        e.edge("0 at least: HABIT as EFFORT", "year w000 d550", "deed(0, 4) = 1 : 0");
        e.edge("0 at least: HABIT one more than EFFORT", "year w000 d560", "deed(0, 4) = 1 : 0");
        e.edge("0 at least: HABIT much more than EFFORT", "year w000 d090", "deed(0, 4) = 1 : 0");
        e.edge("a DEED is not dearer for its PULL, nor in the rain", "year w000 d509", costs(5, 5, 5, 5, 5, 5, 5));
    }

    private static void runs(Edges e) {
        e.edge("a RUN: 2 more on DAYS that 3 divides", "year w000 r509", costs(5, 5, 7, 5, 5, 7, 5, 5, 7));
        e.edge("a RUN: EFFORT less HABIT is 0 at least ahead of the 2", "year w000 r090",
                costs(0, 0, 2, 0, 0, 2));
        e.edge("SHOES: as a RUN in the rain, 1 less on all DAYS", "year w000 h509", costs(4, 4, 6, 4, 4, 6, 4));
        e.edge("SHOES: 0 at least, where a RUN would COST 0", "year w000 h000", costs(0, 0, 1, 0, 0, 1));
        e.edge("SHOES: 0 at least, where a RUN would COST 1", "year w000 h100", "deed(0, 4) = 1 : 0");
        e.edge("SHOES: where a RUN would COST 2", "year w000 h200", "deed(0, 4) = 1 : 1");
    }

    private static void sugar(Edges e) {
        e.edge("SUGAR: PULL more on DAYS that leave 6, divided by 7", "year w000 s503",
                costs(5, 5, 5, 5, 5, 8, 5, 5, 5, 5, 5, 5, 8, 5));
        e.edge("SUGAR: the least PULL", "year w000 s500", costs(5, 5, 5, 5, 5, 5, 5));
        e.edge("SUGAR: the greatest PULL", "year w000 s009", costs(0, 0, 0, 0, 0, 9, 0));
        e.edge("SUGAR: EFFORT less HABIT is 0 at least ahead of PULL", "year w000 s099", "5 x day(1, 0) = 1",
                "deed(0, 2) = 1 : 9", "deed(0, 4) = 1 : 9");
        e.edge("SUGAR: the greatest COST of all", "year w000 s909", "5 x day(0, 0) = 0", "deed(0, 4) = 1 : 18");
    }

    private static void smallOnes(Edges e) {
        int[] half = {0, 0, 1, 1, 2, 2, 3, 3, 4, 4};
        for (int effort = 0; effort <= 9; effort++) {
            e.edge("SMALL: half of " + effort + ", cut", "year w000 m" + effort + "09",
                    "deed(0, 4) = 1 : " + half[effort]);
            e.edge("FRENCH: half of " + effort + ", cut, and 1 more without a CHAIN", "year w000 f" + effort + "09",
                    "deed(0, 4) = 1 : " + (half[effort] + 1));
        }
        e.edge("SMALL: half of EFFORT less HABIT, 0 at least", "year w000 m850", "deed(0, 4) = 1 : 1");
        e.edge("SMALL: HABIT more than EFFORT", "year w000 m190", "deed(0, 4) = 1 : 0");
        e.edge("SMALL: neither in the rain nor by PULL", "year w000 m509", costs(2, 2, 2, 2, 2, 2, 2));
        e.edge("FRENCH: as SMALL with a CHAIN of 1", "year w400 f900", "deed(0, 4) = 1 : 5", "day(1, 0) = 1",
                "deed(0, 4) = 1 : 3");
        e.edge("FRENCH: as SMALL with a CHAIN behind a DAY OFF", "year w401 f900", "day(1, 0) = 1", "day(0, 1) = 0",
                "deed(0, 4) = 1 : 3");
        e.edge("FRENCH: 1 more again once it slipped", "year w400 f900", "day(1, 0) = 1", "day(0, 0) = 0",
                "deed(0, 4) = 1 : 5");
        e.edge("FRENCH: 1 more again once it is taken up again", "year w400 f900", "day(1, 0) = 1", "drop(0) = 0",
                "deed(0, 4) = 1 : 3", "take(0) = 1", "deed(0, 4) = 1 : 4");
    }

    private static void kept(Edges e) {
        for (char letter : "drsh".toCharArray()) {
            e.edge("KEPT: HABIT of " + letter + " is 1 more", habit(letter, 0, 1, 1));
            e.edge("KEPT: HABIT of " + letter + ", 9 at most", habit(letter, 7, 1, 8) + habit(letter, 8, 1, 9)
                    + habit(letter, 9, 1, 9));
        }
        for (char letter : "mf".toCharArray()) {
            e.edge("KEPT: HABIT of " + letter + " is 2 more", habit(letter, 0, 1, 2));
            e.edge("KEPT: HABIT of " + letter + ", 9 at most", habit(letter, 6, 1, 8) + habit(letter, 7, 1, 9)
                    + habit(letter, 8, 1, 9) + habit(letter, 9, 1, 9));
        }
        e.edge("KEPT: CHAIN is 1 more, and how often", "year w400 d000", "deed(0, 5) = 1 : 0", "day(1, 0) = 1",
                "deed(0, 5) = 1 : 1", "deed(0, 7) = 1 : 1", "day(1, 0) = 1", "deed(0, 5) = 1 : 2",
                "deed(0, 7) = 1 : 2");
        e.edge("KEPT: the longest CHAIN of a YEAR", "year w400 d000", "40 x day(1, 0) = 1", "deed(0, 5) = 1 : 40",
                "deed(0, 7) = 1 : 40", "deed(0, 2) = 1 : 9");
    }

    private static void slipped(Edges e) {
        for (char letter : "drmhf".toCharArray()) {
            e.edge("SLIPPED: HABIT of " + letter + " is 1 less", habit(letter, 9, 0, 8));
            e.edge("SLIPPED: HABIT of " + letter + ", 0 at least", habit(letter, 2, 0, 1) + habit(letter, 1, 0, 0)
                    + habit(letter, 0, 0, 0));
        }
        e.edge("SLIPPED: HABIT of a SUGAR is 2 less", habit('s', 9, 0, 7));
        e.edge("SLIPPED: HABIT of a SUGAR, 0 at least", habit('s', 3, 0, 1) + habit('s', 2, 0, 0)
                + habit('s', 1, 0, 0) + habit('s', 0, 0, 0));
        e.edge("SLIPPED: CHAIN is 0, how often stays", "year w400 d000", "2 x day(1, 0) = 1", "day(0, 0) = 0",
                "deed(0, 5) = 1 : 0", "deed(0, 7) = 1 : 2");
        e.edge("OFF: HABIT, CHAIN as they were", "year w401 s550", "2 x day(1, 0) = 1", "day(0, 1) = 0",
                "deed(0, 2) = 1 : 7", "deed(0, 5) = 1 : 2", "deed(0, 7) = 1 : 2");
        e.edge("given up: neither KEPT nor SLIPPED", "year w401 s550 d000", "2 x day(1, 0) = 1", "drop(0) = 1",
                "3 x day(2, 0) = 1", "deed(0, 2) = 1 : 7", "deed(0, 5) = 1 : 2", "deed(0, 7) = 1 : 2");
    }

    private static void deed(Edges e) {
        String year = "year w403 h945 f678\nday(2, 0) = 1\ndrop(1) = 1\n";
        int[][] due = {{4, 9, 3, 5, 5, 0, 0, 0}, {5, 6, 9, 8, 0, 1, 1, 1}};
        for (int what = 0; what < 8; what++) {
            e.edge("12 deed: " + what, year, "deed(0, " + what + ") = 1 : " + due[0][what],
                    "deed(1, " + what + ") = 1 : " + due[1][what]);
        }
        e.edge("12 deed: given up (1), not (0), taken up again", year, "deed(1, 6) = 1 : 1", "deed(0, 6) = 1 : 0",
                "take(1) = 2", "deed(1, 6) = 1 : 0", "deed(1, 5) = 1 : 0", "deed(1, 7) = 1 : 1");
        e.edge("12 deed BAD: no DEEDS", "deed(0, 0) = BAD", "deed(0, 8) = BAD", "deed(-1, 0) = BAD");
        e.range("year w403 h945 f678", "deed(_, 0)", 0, 1);
        e.range("year w403 d000 d000 d000 d000 d000", "deed(_, 0)", 0, 4);
        e.range("year w403 d000", "deed(_, 0)", 0, 0);
        e.range(year, "deed(0, _)", 0, 7);
    }

    private static void markOfRuns(Edges e) {
        int[] tillRain = {2, 1, 0, 2, 1, 0, 2};
        for (int day = 1; day <= 7; day++) {
            String ahead = day == 1 ? "" : (day - 1) + " x day(0, 0) = 0";
            e.edge("13 mark of a RUN, on DAY " + day, "year w400 r500", ahead, "mark(0, 1) = " + tillRain[day - 1]);
            e.edge("13 mark of SHOES as a RUN, on DAY " + day, "year w400 h500", ahead,
                    "mark(0, 1) = " + tillRain[day - 1]);
        }
        e.edge("13 mark of SHOES: 1 less than a RUN", "year w400 h500", "mark(0, 4) = 1");
        e.edge("13 mark of SHOES: a RUN would COST 0", "year w400 h090", "mark(0, 4) = 0");
        e.edge("13 mark of SHOES: a RUN would COST 1", "year w400 h100", "mark(0, 4) = 1");
        e.edge("13 mark of SHOES: a RUN would COST 0, but for the rain", "year w400 h000", "2 x day(0, 0) = 0",
                "mark(0, 4) = 1");
    }

    private static void markOfOthers(Edges e) {
        e.edge("13 mark of a SUGAR: DAYS 5, 6, 7", "year w400 s509", "4 x day(0, 0) = 0", "mark(0, 2) = 0",
                "day(0, 0) = 0", "mark(0, 2) = 9", "day(0, 0) = 0", "mark(0, 2) = 0");
        e.edge("13 mark of a SUGAR: without PULL", "year w400 s500", "5 x day(0, 0) = 0", "mark(0, 2) = 0");
        e.edge("13 mark of a SUGAR: a HABIT above EFFORT", "year w400 s023", "5 x day(1, 0) = 1", "mark(0, 2) = 3");
        e.edge("13 mark of a SMALL one: 5 to 2", "year w400 m500", "mark(0, 3) = 3");
        e.edge("13 mark of a SMALL one: 1 to 0", "year w400 m100", "mark(0, 3) = 1");
        e.edge("13 mark of a SMALL one: 0 to 0", "year w400 m000", "mark(0, 3) = 0");
        e.edge("13 mark of FRENCH as a SMALL one: 5 to 3", "year w400 f500", "mark(0, 3) = 2");
        e.edge("13 mark of FRENCH as a SMALL one: 2 to 2", "year w400 f200", "mark(0, 3) = 0");
        e.edge("13 mark of FRENCH as a SMALL one: 1 to 1", "year w400 f100", "mark(0, 3) = 0");
        e.edge("13 mark of FRENCH as a SMALL one: dearer, 0 at least", "year w400 f000", "mark(0, 3) = 0");
        e.edge("13 mark of FRENCH as a SMALL one: with a CHAIN, 7 to 3", "year w400 f900", "day(1, 0) = 1",
                "mark(0, 3) = 4");
        e.edge("13 mark of FRENCH: CHAIN 0", "year w400 f900", "mark(0, 5) = 1");
        e.edge("13 mark of FRENCH: CHAIN 1", "year w400 f900", "day(1, 0) = 1", "mark(0, 5) = 0");
        e.edge("13 mark: of one given up", "year w400 f900", "drop(0) = 0", "mark(0, 5) = 1", "mark(0, 3) = 4");
    }

    private static void markRefused(Edges e) {
        String letters = "drsmhf";
        // Bits: of which KINDS 1 to 5 a DEED of each KIND is.
        int[] is = {0, 1 << 1, 1 << 2, 1 << 3, 1 << 4 | 1 << 1, 1 << 5 | 1 << 3};
        for (int of = 0; of < 6; of++) {
            for (int kind = 1; kind <= 5; kind++) {
                if ((is[of] >> kind & 1) == 0) {
                    e.edge("13 mark UNLIKE: " + letters.charAt(of) + " is no " + letters.charAt(kind),
                            "year w400 " + letters.charAt(of) + "555", "mark(0, " + kind + ") = UNLIKE");
                }
            }
        }
        e.edge("13 mark BAD: also KIND 0", "year w400 d500", "mark(0, 0) = BAD");
        e.edge("13 mark BAD: no DEEDS", "mark(0, 1) = BAD");
        e.edge("13 mark: BAD ahead of UNLIKE", "year w400 d500", "mark(1, 1) = BAD", "mark(-1, 2) = BAD",
                "mark(0, 6) = BAD");
        e.range("year w400 h500 f500", "mark(_, 3)", 0, 1);
        e.range("year w400 h500", "mark(0, _)", 1, 5);
    }

    /** What DEED 0 COSTS on DAY 1 and so on, if it slips on all of them. */
    private static String costs(int... costs) {
        StringBuilder lines = new StringBuilder();
        for (int cost : costs) {
            lines.append("deed(0, 4) = 1 : " + cost + "\nday(0, 0) = 0\n");
        }
        return lines.toString();
    }

    /** A YEAR of one DEED, whose HABIT is asked behind a DAY. */
    private static String habit(char letter, int habit, int set, int due) {
        return "year w400 " + letter + "0" + habit + "0\nday(" + set + ", 0) = " + set + "\ndeed(0, 2) = 1 : " + due
                + "\n";
    }
}
