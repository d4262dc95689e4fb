/** Promises 29 to 34: fits, sure, ask, habits, kinds, test. */
final class FindingOutTest {
    private static final int NOTHING = 1, UNLIKE = 3, NOUGHT = 4, SIZE = 5;
    private static final int LOW = Integer.MIN_VALUE, HIGH = Integer.MAX_VALUE;

    public static void main(String[] args) {
        Check c = new Check();
        sets(c);
        givenUp(c);
        refusedSets(c);
        habits(c);
        kinds(c);
        tests(c);
        refusedPairs(c);
        c.end("FindingOutTest");
    }

    private static void sets(Check c) {
        // Costs are 1, 2, 3, 3.
        NinthDay x = Check.of("w000 d100 d200 d300 d300");
        fits(c, x, 0, 1, 0);
        fits(c, x, 3, 3, 3);
        fits(c, x, 6, 3, 7);
        fits(c, x, 8, 1, 14);
        fits(c, x, 9, 1, 15);
        fits(c, x, 10, 0, NinthDay.NONE);
        fits(c, x, 99, 0, NinthDay.NONE);
        // 3: {0 1}, {2}, {3}.
        c.told("sure(3)", x, x.sure(3), 0, 0);
        c.told("ask(3): with 0 one, without two", x, x.ask(3), 0, 2);
        // 6: {0 1 2}, {0 1 3}, {2 3}.
        c.told("sure(6)", x, x.sure(6), 0, 0);
        // 8: {1 2 3}.
        c.told("sure(8)", x, x.sure(8), 14, 1);
        c.told("ask(8)", x, x.ask(8), 0, 1);
        // 2: {1}.
        c.told("sure(2)", x, x.sure(2), 2, 13);
        // 4: {0 2}, {0 3}.
        c.told("sure(4)", x, x.sure(4), 1, 2);
        c.told("ask(4): 2 tells both apart", x, x.ask(4), 2, 1);
        c.told("sure(0)", x, x.sure(0), 0, 15);
        NinthDay all = Check.of("w000 d100 d100 d100 d100 d100");
        fits(c, all, 5, 1, 31);
        c.told("sure(5): all five", all, all.sure(5), 31, 0);
        NinthDay z = Check.of("w000 d000 d000 d000 d000 d000");
        fits(c, z, 0, 32, 0);
        c.told("ask(0): all alike", z, z.ask(0), 0, 16);
    }

    private static void fits(Check c, NinthDay x, int v, long sets, int first) {
        c.shared("fits(" + v + ")", x, x.fits(v), sets, 1);
        c.due("fits(" + v + "), asked()", x.asked(), first);
    }

    private static void givenUp(Check c) {
        NinthDay x = Check.of("w000 d100 d200 d300 d300");
        x.drop(2);
        // 3: {0 1}, {3}.
        fits(c, x, 3, 2, 3);
        c.told("sure(3)", x, x.sure(3), 0, 0);
        c.told("ask(3)", x, x.ask(3), 0, 1);
        // 4: {0 3}.
        c.told("sure(4): one given up is not told", x, x.sure(4), 9, 2);
        x.drop(0);
        c.told("ask(3): the first not given up", x, x.ask(3), 1, 1);
        x.drop(1);
        x.drop(3);
        c.due("ask(0): all are given up", x.ask(0), NinthDay.NONE);
        c.due("NONE leaves asked()", x.asked(), 1);
        c.told("sure(0)", x, x.sure(0), 0, 0);
        c.found("ask(1): there is no set", x, x.ask(1), NOUGHT);
    }

    private static void refusedSets(Check c) {
        NinthDay x = Check.of("w000 d200");
        x.fits(2);
        for (int v : new int[] {-1, 100, LOW, HIGH}) {
            c.due("fits(" + v + ")", x.fits(v), NinthDay.BAD);
            c.due("sure(" + v + ")", x.sure(v), NinthDay.BAD);
            c.due("ask(" + v + ")", x.ask(v), NinthDay.BAD);
        }
        c.found("sure(1)", x, x.sure(1), NOUGHT);
        c.found("ask(99)", x, x.ask(99), NOUGHT);
        c.due("findings(4)", x.findings(4), 2);
        c.due("refused calls leave asked()", x.asked(), 1);
        c.due("refused calls leave upper()", x.upper(), 1);
        NinthDay e = new NinthDay();
        c.due("fits(0) without deeds", e.fits(0), NinthDay.STATE);
        c.due("sure(0) without deeds", e.sure(0), NinthDay.STATE);
        c.due("ask(0) without deeds", e.ask(0), NinthDay.STATE);
        c.due("sure(1) without deeds: STATE ahead of NOUGHT", e.sure(1), NinthDay.STATE);
        c.due("fits(100) without deeds", e.fits(100), NinthDay.BAD);
    }

    private static void habits(Check c) {
        NinthDay x = Check.of("w000 d540 r540 s543 m540 f540");
        Check.fill(x, 0, 1, 2);
        c.told("DEED: 5 less 3, 6 less 4", x, x.habits(0, 0), 1 << 3, 1 << 6);
        c.told("SMALL: 5 less 0 or 1, half 2", x, x.habits(3, 0), 3, 1 << 8 | 1 << 9);
        c.told("FRENCH: 5 less 2 or 3, half 1, and 1", x, x.habits(4, 0), 3 << 2, 3 << 6);
        Check.fill(x, 0, 1, 0);
        c.told("DEED: 5 and more", x, x.habits(0, 0), 0x3E0, 0x1F);
        c.told("FRENCH never costs 0 without a chain", x, x.habits(4, 0), 0, 0);
        Check.fill(x, 0, 3, 2, 6, 2, 1, 0);
        c.told("RUN in the rain", x, x.habits(1, 0), 0x3E0, 0x1F);
        Check.fill(x, 0, 3, 2, 1, 1);
        c.told("RUN: no habit is both", x, x.habits(1, 0), 0, 0);
        Check.fill(x, 0, 6, 7, 1, 4, 13, 7);
        c.told("SUGAR with its pull", x, x.habits(2, 0), 1 << 1, 1 << 8);
        Check.fill(x, 0, 99, 20);
        c.told("too much", x, x.habits(2, 0), 0, 0);
        x.row(0, 0);
        c.told("a row without places", x, x.habits(2, 0), 1023, 1023);
        NinthDay f = Check.of("w090 f540");
        f.day(1, 0);
        Check.fill(f, 0, 1, 0);
        c.told("FRENCH of a chain: habit 6 now", f, f.habits(0, 0), 0x3F0, 0xFF);
    }

    private static void kinds(Check c) {
        NinthDay x = Check.of("w000 d513 s513");
        x.row(0, 0);
        c.due("nothing known", x.kinds(0, 0), 63);
        Check.fill(x, 0, 1, 4);
        c.due("4 on a dry day: DEED, RUN, SUGAR", x.kinds(0, 0), 7);
        Check.fill(x, 0, 3, 6);
        c.due("6 in the rain: RUN", x.kinds(0, 0), 2);
        Check.fill(x, 0, 3, 5);
        c.due("5 in the rain: SHOES", x.kinds(0, 0), 16);
        Check.fill(x, 0, 1, 3);
        c.due("3: SHOES, FRENCH", x.kinds(0, 0), 48);
        Check.fill(x, 0, 1, 2);
        c.due("2: SMALL", x.kinds(0, 0), 8);
        Check.fill(x, 0, 13, 7);
        c.due("7 on day 13: SUGAR", x.kinds(0, 0), 4);
        Check.fill(x, 0, 13, 7, 1, 4);
        c.due("7, then 4: SUGAR", x.kinds(1, 0), 4);
        Check.fill(x, 0, 13, 7, 1, 3);
        c.due("7, then 3: none", x.kinds(1, 0), 0);
        x.most();
        int before = x.asked();
        x.kinds(1, 0);
        c.due("kinds leaves asked()", x.asked(), before);
        NinthDay f = Check.of("w090 f710");
        f.day(1, 0);
        Check.fill(f, 0, 1, 2);
        c.due("with a chain FRENCH costs as SMALL: 7 less 3, half", f.kinds(0, 0), 40);
    }

    private static void tests(Check c) {
        NinthDay x = Check.of("w000 d513");
        x.row(0, 0);
        // Day 1: 4 4 4 2 3 3; day 3: 4 6 4 2 5 3; day 6: 4 6 7 2 5 3.
        c.told("day 6 tells all apart", x, x.test(0, 0), 6, 1);
        Check.fill(x, 0, 1, 4);
        c.told("DEED, RUN, SUGAR by day 6", x, x.test(0, 0), 6, 1);
        Check.fill(x, 0, 1, 3);
        c.told("SHOES, FRENCH by day 3", x, x.test(0, 0), 3, 1);
        Check.fill(x, 0, 1, 2);
        c.told("one kind alone: day 1", x, x.test(0, 0), 1, 1);
        Check.fill(x, 0, 1, 4, 1, 5);
        x.deed(0, 1);
        c.due("no kind", x.test(0, 0), NinthDay.NONE);
        c.due("NONE leaves asked()", x.asked(), 5);
        NinthDay z = Check.of("w000 d000");
        z.row(0, 0);
        // Day 1: 0 0 0 0 0 1; day 3: 0 2 0 0 1 1.
        c.told("day 3: the greatest part is 3", z, z.test(0, 0), 3, 3);
        NinthDay w = Check.of("w000 d510");
        Check.fill(w, 0, 3, 4);
        c.told("DEED, SUGAR without pull: alike always", w, w.test(0, 0), 1, 2);
        Check.fill(w, 0, 1, 3);
        c.told("FRENCH, SHOES by day 3", w, w.test(0, 0), 3, 1);
        NinthDay p = Check.of("w000 d511");
        Check.fill(p, 0, 3, 4, 6, 4);
        c.told("DEED alone", p, p.test(0, 0), 1, 1);
        Check.fill(p, 0, 3, 4);
        c.told("DEED, SUGAR with a pull: day 6", p, p.test(0, 0), 6, 1);
    }

    private static void refusedPairs(Check c) {
        NinthDay x = Check.of("w000 d500 r500");
        x.row(0, 2);
        x.row(1, 3);
        Check.fill(x, 2, 1, 5);
        int[][] unlike = {{0, 5}, {100, 5}, {1, -1}, {1, 21}, {LOW, 5}, {1, HIGH}};
        for (int call = 0; call < 3; call++) {
            for (int i : new int[] {-1, 2, LOW, HIGH}) {
                c.due(name(call) + "(" + i + ", 2)", ask(x, call, i, 2), NinthDay.BAD);
            }
            for (int r : new int[] {-1, 6, LOW, HIGH}) {
                c.due(name(call) + "(0, " + r + ")", ask(x, call, 0, r), NinthDay.BAD);
            }
            c.found(name(call) + " of a missing row", x, ask(x, call, 0, 5), NOTHING);
            c.found(name(call) + " not by pairs, SIZE ahead of UNLIKE", x, ask(x, call, 0, 1), SIZE);
            for (int[] pair : unlike) {
                Check.fill(x, 3, 1, 5, pair[0], pair[1]);
                c.found(name(call) + " of " + pair[0] + ", " + pair[1], x, ask(x, call, 0, 3), UNLIKE);
            }
            c.due(name(call) + " without deeds", ask(new NinthDay(), call, 0, 0), NinthDay.BAD);
            Check.fill(x, 3, 99, 20);
            c.due(name(call) + " of the largest", ask(x, call, 0, 3) == (call == 2 ? NinthDay.NONE : 0));
        }
        x.most();
        int before = x.asked();
        x.habits(0, 1);
        x.test(0, 1);
        c.due("refused calls leave asked()", x.asked(), before);
    }

    private static String name(int call) {
        return call == 0 ? "habits" : call == 1 ? "kinds" : "test";
    }

    private static int ask(NinthDay x, int call, int i, int r) {
        return call == 0 ? x.habits(i, r) : call == 1 ? x.kinds(i, r) : x.test(i, r);
    }
}
