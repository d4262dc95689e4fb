/** Promises 12, 13 and the terms on what deeds cost, how habits grow and go: deed, mark. */
final class DeedsTest {
    private static final int UNLIKE = 3;
    private static final int LOW = Integer.MIN_VALUE, HIGH = Integer.MAX_VALUE;

    public static void main(String[] args) {
        Check c = new Check();
        costs(c);
        habits(c);
        traits(c);
        marks(c);
        refusals(c);
        c.end("DeedsTest");
    }

    /** Costs on days 1 to 7, every deed slipping, habits 0 from the start. */
    private static void costs(Check c) {
        costs(c, "d503", 5, 5, 5, 5, 5, 5, 5);
        costs(c, "r503", 5, 5, 7, 5, 5, 7, 5);
        costs(c, "h503", 4, 4, 6, 4, 4, 6, 4);
        costs(c, "h003", 0, 0, 1, 0, 0, 1, 0);
        costs(c, "r003", 0, 0, 2, 0, 0, 2, 0);
        costs(c, "s503", 5, 5, 5, 5, 5, 8, 5);
        costs(c, "s009", 0, 0, 0, 0, 0, 9, 0);
        costs(c, "m503", 2, 2, 2, 2, 2, 2, 2);
        costs(c, "m103", 0, 0, 0, 0, 0, 0, 0);
        costs(c, "f503", 3, 3, 3, 3, 3, 3, 3);
        costs(c, "f003", 1, 1, 1, 1, 1, 1, 1);
        costs(c, "d039", 0, 0, 0, 0, 0, 0, 0);
        costs(c, "d321", 1, 2, 3, 3, 3, 3, 3);
        costs(c, "s540", 1, 3, 5, 5, 5, 5, 5);
        costs(c, "m960", 1, 2, 2, 3, 3, 4, 4);
        costs(c, "f960", 2, 3, 3, 4, 4, 5, 5);
        NinthDay x = Check.of("w000s109");
        for (int day = 1; day <= 13; day++) {
            c.due("s109 on day " + day, x.cost(1), day % 7 == 6 ? 10 : 1);
            x.day(0, 0);
        }
    }

    private static void costs(Check c, String deed, int... want) {
        NinthDay x = Check.of("w009" + deed);
        for (int day = 1; day <= want.length; day++) {
            c.told(deed + " on day " + day, x, x.deed(0, 4), 1, want[day - 1]);
            x.day(0, 0);
        }
    }

    private static void habits(Check c) {
        NinthDay x = Check.of("w409 d300r300s300m300h300");
        x.day(31, 0);
        int[] grown = {1, 1, 1, 2, 1};
        for (int i = 0; i < 5; i++) {
            c.due("habit of " + i + " once kept", Check.trait(x, i, 2), grown[i]);
        }
        for (int k = 0; k < 12; k++) {
            x.day(31, 0);
        }
        for (int i = 0; i < 5; i++) {
            c.due("habit of " + i + " kept long", Check.trait(x, i, 2), 9);
            c.due("chain of " + i, Check.trait(x, i, 5), 13);
            c.due("kept " + i, Check.trait(x, i, 7), 13);
        }
        x.day(0, 31);
        for (int i = 0; i < 5; i++) {
            c.due("habit of " + i + " off", Check.trait(x, i, 2), 9);
            c.due("chain of " + i + " off", Check.trait(x, i, 5), 13);
            c.due("kept " + i + " off", Check.trait(x, i, 7), 13);
        }
        x.day(0, 0);
        int[] shrunk = {8, 8, 7, 8, 8};
        for (int i = 0; i < 5; i++) {
            c.due("habit of " + i + " slipped", Check.trait(x, i, 2), shrunk[i]);
            c.due("chain of " + i + " slipped", Check.trait(x, i, 5), 0);
            c.due("kept " + i + " slipped", Check.trait(x, i, 7), 13);
        }
        NinthDay y = Check.of("w400 f300 s310 f080 f090");
        y.day(13, 0);
        c.due("French grows by 2", Check.trait(y, 0, 2), 2);
        c.due("sugar falls to 0", Check.trait(y, 1, 2), 0);
        c.due("French to 9", Check.trait(y, 2, 2), 9);
        c.due("French at 9", Check.trait(y, 3, 2), 9);
        y.day(0, 0);
        c.due("French falls by 1", Check.trait(y, 0, 2), 1);
        c.due("sugar stays 0", Check.trait(y, 1, 2), 0);
    }

    private static void traits(Check c) {
        NinthDay x = Check.of("w201 h945 f678");
        x.day(2, 0);
        x.drop(1);
        int[][] want = {{4, 9, 3, 5, 5, 0, 0, 0}, {5, 6, 9, 8, 0, 1, 1, 1}};
        for (int i = 0; i < 2; i++) {
            for (int what = 0; what < 8; what++) {
                c.told("deed(" + i + ", " + what + ")", x, x.deed(i, what), 1, want[i][what]);
            }
        }
    }

    private static void marks(Check c) {
        NinthDay x = Check.of("w401 d903 r903 s904 h903 f903");
        int[] tillRain = {2, 1, 0, 2, 1, 0, 2};
        for (int day = 1; day <= 7; day++) {
            c.due("RUN on day " + day, x.mark(1, 1), tillRain[day - 1]);
            c.due("SHOES as RUN on day " + day, x.mark(3, 1), tillRain[day - 1]);
            c.due("SUGAR on day " + day, x.mark(2, 2), day == 6 ? 4 : 0);
            c.due("SHOES on day " + day, x.mark(3, 4), 1);
            c.due("FRENCH on day " + day, x.mark(4, 5), 1);
            c.due("FRENCH as SMALL on day " + day, x.mark(4, 3), 4);
            x.day(0, 0);
        }
        x.day(16, 0);
        c.due("FRENCH of a chain", x.mark(4, 5), 0);
        c.due("FRENCH of a chain as SMALL: 7 to 3", x.mark(4, 3), 4);
        NinthDay y = Check.of("w400 h000 f000 m300 f200 h100");
        c.due("SHOES that cost 0 as a RUN does", y.mark(0, 4), 0);
        c.due("FRENCH dearer than a DEED: 0", y.mark(1, 3), 0);
        c.due("SMALL: 3 to 1", y.mark(2, 3), 2);
        c.due("FRENCH: 2 to 2", y.mark(3, 3), 0);
        c.due("SHOES: 1 to 0", y.mark(4, 4), 1);
        y.day(0, 0);
        y.day(0, 0);
        c.due("SHOES in the rain: 2 to 1", y.mark(0, 4), 1);
        boolean[][] is = {
            {false, false, false, false, false, false},
            {false, true, false, false, false, false},
            {false, false, true, false, false, false},
            {false, true, false, false, true, false},
            {false, false, false, true, false, true}};
        for (int i = 0; i < 5; i++) {
            for (int kind = 1; kind < 6; kind++) {
                int got = x.mark(i, kind);
                c.due("mark(" + i + ", " + kind + ") is told", is[i][kind] == got >= 0);
                if (!is[i][kind]) {
                    c.found("mark(" + i + ", " + kind + ")", x, got, UNLIKE);
                }
            }
        }
        c.found("SMALL is no FRENCH", y, y.mark(2, 5), UNLIKE);
        c.due("mark leaves asked()", y.asked(), 0);
    }

    private static void refusals(Check c) {
        NinthDay x = Check.of("w401 d903 r903");
        c.due("deed(-1, 0)", x.deed(-1, 0), NinthDay.BAD);
        c.due("deed(2, 0)", x.deed(2, 0), NinthDay.BAD);
        c.due("deed(0, -1)", x.deed(0, -1), NinthDay.BAD);
        c.due("deed(0, 8)", x.deed(0, 8), NinthDay.BAD);
        c.due("deed(LOW, HIGH)", x.deed(LOW, HIGH), NinthDay.BAD);
        c.due("mark(-1, 1)", x.mark(-1, 1), NinthDay.BAD);
        c.due("mark(2, 1)", x.mark(2, 1), NinthDay.BAD);
        c.due("mark(1, 0)", x.mark(1, 0), NinthDay.BAD);
        c.due("mark(1, 6)", x.mark(1, 6), NinthDay.BAD);
        c.due("mark(1, -1)", x.mark(1, -1), NinthDay.BAD);
        c.due("mark(LOW, HIGH)", x.mark(LOW, HIGH), NinthDay.BAD);
        c.due("finding()", x.finding(), 0);
        c.due("deed(0, 0) without deeds", new NinthDay().deed(0, 0), NinthDay.BAD);
        c.due("mark(0, 1) without deeds", new NinthDay().mark(0, 1), NinthDay.BAD);
    }
}
