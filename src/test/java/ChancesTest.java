/** Promises 35 to 39: spare, tempt, odds, mid, lots. */
final class ChancesTest {
    private static final int LOW = Integer.MIN_VALUE, HIGH = Integer.MAX_VALUE;

    public static void main(String[] args) {
        Check c = new Check();
        spare(c);
        tempt(c);
        odds(c);
        mid(c);
        lots(c);
        withoutDeeds(c);
        c.end("ChancesTest");
    }

    private static void spare(Check c) {
        // What slipping would take: 1, 0, 2, 1, 1.
        NinthDay x = Check.of("w000 d510 d500 s520 s510 f530");
        c.told("spare(0)", x, x.spare(0), 0, 0);
        c.told("spare(1)", x, x.spare(1), 4, 2);
        c.told("spare(2): the least number", x, x.spare(2), 5, 3);
        c.told("spare(3)", x, x.spare(3), 13, 4);
        c.told("spare(4)", x, x.spare(4), 29, 5);
        c.told("spare(5)", x, x.spare(5), 31, 5);
        x.drop(2);
        c.told("spare(1), sugar given up", x, x.spare(1), 1, 1);
        c.due("spare(5): not so many", x.spare(5), NinthDay.NONE);
        c.due("NONE leaves asked()", x.asked(), 1);
        NinthDay z = Check.of("w000 d500 d500");
        c.told("spare(1) where nothing is lost", z, z.spare(1), 1, 0);
        for (int n : new int[] {-1, 6, LOW, HIGH}) {
            c.due("spare(" + n + ")", x.spare(n), NinthDay.BAD);
        }
    }

    private static void tempt(Check c) {
        NinthDay x = Check.of("w030 d100 d100 d100");
        int[] want = {0, 0, 1, 1, 1, 1};
        for (int n = 0; n < 6; n++) {
            c.due("tempt(" + n + ") of three", x.tempt(n), want[n]);
        }
        NinthDay y = Check.of("w030 d100 d100 d100 d100 d900");
        // The one that is too dear is never tempted away: 1 by 2 turns, 2 by 4.
        int[] five = {0, 0, 1, 1, 2, 2};
        for (int n = 0; n < 6; n++) {
            c.due("tempt(" + n + ") of five", y.tempt(n), five[n]);
        }
        NinthDay d = Check.of("w040 d100 d300 d300 d400");
        // 1 is tempted away; then one of 3 is kept, the other one is not in reach any more.
        c.due("tempt(4), the cheap one gone", d.tempt(4), 1);
        d.will(6);
        c.due("tempt(4) by 6: of 3, 3, 4 left one 3 is kept, the other tempted away", d.tempt(4), 1);
        d.will(7);
        c.due("tempt(4) by 7", d.tempt(4), 2);
        d.drop(0);
        c.due("tempt(4), one given up", d.tempt(4), 1);
        NinthDay k = Check.of("w020 d100 d100 d100 d100 d200");
        c.due("tempt(4): the dear one is not kept", k.tempt(4), 2);
        NinthDay n = Check.of("w000 d100 d100");
        c.due("nothing in reach", n.tempt(5), 0);
        for (int v : new int[] {-1, 6, LOW, HIGH}) {
            c.due("tempt(" + v + ")", x.tempt(v), NinthDay.BAD);
        }
        c.due("tempt leaves asked()", x.asked(), 0);
    }

    private static void odds(Check c) {
        NinthDay x = Check.of("w030 d100 d200 d300");
        // RULE 0 keeps two.
        c.shared("odds(0, 5)", x, x.odds(0, 5), 1, 1);
        c.shared("odds(1, 3): 1 less 1/16", x, x.odds(1, 3), 15, 16);
        c.shared("odds(2, 3): 9/16", x, x.odds(2, 3), 9, 16);
        c.shared("odds(3, 3): there are two", x, x.odds(3, 3), 0, 1);
        c.shared("odds(2, 0)", x, x.odds(2, 0), 1, 1);
        c.shared("odds(1, 12)", x, x.odds(1, 12), 0, 1);
        c.shared("odds(0, 12)", x, x.odds(0, 12), 1, 1);
        x.will(0);
        c.shared("odds(0, 7): none is kept", x, x.odds(0, 7), 1, 1);
        c.shared("odds(1, 7): none is kept", x, x.odds(1, 7), 0, 1);
        NinthDay f = Check.of("w000 d000 d000 d000 d000 d000");
        c.shared("odds(5, 1): 11 to the fifth", f, f.odds(5, 1), 161051, 248832);
        c.shared("odds(1, 11): 1 less that", f, f.odds(1, 11), 87781, 248832);
        c.shared("odds(3, 6)", f, f.odds(3, 6), 1, 2);
        c.shared("odds(4, 6): 6 of 32", f, f.odds(4, 6), 3, 16);
        f.drop(2);
        c.shared("odds(4, 6), one given up", f, f.odds(4, 6), 1, 16);
        c.shared("odds(5, 6), one given up", f, f.odds(5, 6), 0, 1);
        x.will(3);
        x.odds(2, 3);
        int[][] bad = {{-1, 0}, {6, 0}, {0, -1}, {0, 13}, {LOW, 0}, {0, HIGH}};
        for (int[] b : bad) {
            c.due("odds(" + b[0] + ", " + b[1] + ")", x.odds(b[0], b[1]), NinthDay.BAD);
        }
        c.due("refused calls leave upper()", x.upper(), 9);
        c.due("refused calls leave lower()", x.lower(), 16);
        c.due("odds leaves asked()", x.asked(), 0);
    }

    private static void mid(Check c) {
        NinthDay x = Check.of("w010 d110 s330 d950");
        // RULE 0 keeps the first two; the last slips: 5 to 4; the first is 2 or 0, the second 4 or 1.
        c.shared("mid(0)", x, x.mid(0), 10, 1);
        c.shared("mid(12)", x, x.mid(12), 5, 1);
        c.shared("mid(6)", x, x.mid(6), 15, 2);
        c.shared("mid(1): 4 and (22 + 45) by 12", x, x.mid(1), 115, 12);
        x.drop(2);
        c.shared("mid(0), one given up", x, x.mid(0), 6, 1);
        x.drop(0);
        x.drop(1);
        c.shared("mid(5), all given up", x, x.mid(5), 0, 1);
        NinthDay f = Check.of("w000 m880 f990");
        // FRENCH costs 1 without a chain, so it slips; SMALL is 9 or 7.
        c.shared("mid(3)", f, f.mid(3), 33, 2);
        NinthDay g = Check.of("w000 d110 d110 d110 d110 d110");
        c.shared("mid(6) of five", g, g.mid(6), 5, 1);
        f.mid(3);
        for (int p : new int[] {-1, 13, LOW, HIGH}) {
            c.due("mid(" + p + ")", f.mid(p), NinthDay.BAD);
        }
        c.due("refused calls leave upper()", f.upper(), 33);
        c.due("mid leaves asked()", f.asked(), 0);
    }

    private static void lots(Check c) {
        // From seed 1 comes 48271: RULE 3, which keeps 0 and 2 of costs 3, 3, 0; 6033 modulo 3 is 0, which slips.
        NinthDay x = Check.of("w040 d300 d410 d240");
        c.due("lots(1, 1)", x.lots(1, 1), 1);
        c.due("habit of 0, slipped", Check.trait(x, 0, 2), 0);
        c.due("habit of 2, kept", Check.trait(x, 2, 2), 5);
        lotsAgainstDays(c, "w040 d300 d410 d240", 1, 20);
        lotsAgainstDays(c, "w093 r505 s549 m900 h720 f803", 2147483646, 20);
        lotsAgainstDays(c, "w053 r505 s549", 31337, 7);
        lotsAgainstDays(c, "w123 f803", 48271, 20);
        NinthDay y = Check.of("w040 d300");
        long before = y.digest();
        int[][] bad = {{0, 1}, {-1, 1}, {21, 1}, {1, 0}, {1, -1}, {1, HIGH}, {LOW, LOW}};
        for (int[] b : bad) {
            c.due("lots(" + b[0] + ", " + b[1] + ")", y.lots(b[0], b[1]), NinthDay.BAD);
        }
        c.due("refused lots change nothing", y.digest(), before);
        c.due("lots(20, 1)", y.lots(20, 1), 0);
        c.due("lots(20, 1) again", y.lots(20, 1), 0);
        c.due("lots(1, 1): 41 acts", y.lots(1, 1), NinthDay.FULL);
        c.due("acts", y.count(2), 40);
        c.due("day", y.count(1), 41);
        c.due("lots leaves asked()", y.asked(), 0);
    }

    /** The same days by lots and gone through by hand, twice; fewer than 20 leave room to give one up between. */
    private static void lotsAgainstDays(Check c, String year, int seed, int n) {
        NinthDay byLots = Check.of(year);
        NinthDay byHand = Check.of(year);
        for (int from : new int[] {seed, 1 + seed / 2}) {
            long lot = from;
            int sum = 0;
            for (int k = 0; k < n; k++) {
                lot = lot * 48271 % 2147483647;
                int set = byHand.rule((int) (lot % 4));
                set &= ~(1 << (int) (lot / 8 % byHand.count(0)));
                sum += byHand.day(set, 0);
            }
            c.due("lots(" + n + ", " + from + ") of " + year, byLots.lots(n, from), sum);
            c.due("as by hand", byLots.digest(), byHand.digest());
            if (n < 20) {
                byLots.drop(0);
                byHand.drop(0);
            }
        }
    }

    private static void withoutDeeds(Check c) {
        NinthDay x = new NinthDay();
        c.due("spare(0)", x.spare(0), NinthDay.STATE);
        c.due("spare(6)", x.spare(6), NinthDay.BAD);
        c.due("tempt(0)", x.tempt(0), NinthDay.STATE);
        c.due("tempt(6)", x.tempt(6), NinthDay.BAD);
        c.due("odds(0, 0)", x.odds(0, 0), NinthDay.STATE);
        c.due("odds(6, 0)", x.odds(6, 0), NinthDay.BAD);
        c.due("mid(0)", x.mid(0), NinthDay.STATE);
        c.due("mid(13)", x.mid(13), NinthDay.BAD);
        c.due("lots(1, 1)", x.lots(1, 1), NinthDay.STATE);
        c.due("lots(0, 1)", x.lots(0, 1), NinthDay.BAD);
    }
}
