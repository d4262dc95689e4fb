/** Promises 21 to 28: cost, most, rule, plan, till, better, least, chain. */
final class KeepingTest {
    private static final int BEYOND = 2;
    private static final int LOW = Integer.MIN_VALUE, HIGH = Integer.MAX_VALUE;

    public static void main(String[] args) {
        Check c = new Check();
        costs(c);
        most(c);
        rules(c);
        plans(c);
        till(c);
        better(c);
        least(c);
        chains(c);
        withoutDeeds(c);
        c.end("KeepingTest");
    }

    private static void costs(Check c) {
        NinthDay x = Check.of("w000 d100 d200 d400");
        x.drop(1);
        for (int set = 0; set < 8; set++) {
            c.due("cost(" + set + "), one given up", x.cost(set), set);
        }
        c.due("cost(8)", x.cost(8), NinthDay.BAD);
        c.due("cost(-1)", x.cost(-1), NinthDay.BAD);
        c.due("cost(LOW)", x.cost(LOW), NinthDay.BAD);
        c.due("cost(HIGH)", x.cost(HIGH), NinthDay.BAD);
        NinthDay y = Check.of("w000 d900 d900 d900 d900 d900");
        c.due("cost(31)", y.cost(31), 45);
        c.due("cost(32)", y.cost(32), NinthDay.BAD);
    }

    private static void most(Check c) {
        NinthDay x = Check.of("w050 d500 d200 d300 d300 d100");
        c.told("most of 5, 2, 3, 3, 1 by 5", x, x.most(), 2, 18);
        x.will(6);
        c.told("by 6, of 2 3 1 and 2 3 1 the first", x, x.most(), 3, 22);
        x.drop(4);
        c.told("without the last", x, x.most(), 2, 6);
        x.will(1);
        c.told("none can be kept", x, x.most(), 0, 0);
        x.will(40);
        c.told("all but the one given up", x, x.most(), 4, 15);
        NinthDay y = Check.of("w030 d300 d200 d100 d300");
        c.told("two that cost 3 rather than one", y, y.most(), 2, 6);
        NinthDay z = Check.of("w010 d200 d100 d100");
        c.told("of like ones the least number", z, z.most(), 1, 2);
    }

    private static void rules(Check c) {
        NinthDay x = Check.of("w060 d730 d510 d420 d940 d520");
        // Costs are 4, 4, 2, 5, 3; habits 3, 1, 2, 4, 2.
        rule(c, x, 0, 20, 5);
        rule(c, x, 1, 5, 6);
        rule(c, x, 2, 5, 6);
        rule(c, x, 3, 6, 6);
        x.day(4, 0);
        // Costs are 5, 5, 1, 6, 4 now; habits 2, 0, 3, 3, 1; chains 0, 0, 1, 0, 0.
        rule(c, x, 0, 20, 5);
        rule(c, x, 1, 5, 6);
        rule(c, x, 2, 5, 6);
        rule(c, x, 3, 6, 6);
        x.drop(1);
        rule(c, x, 3, 20, 5);
        rule(c, x, 1, 5, 6);
        x.will(0);
        rule(c, x, 0, 0, 0);
        c.due("rule(4)", x.rule(4), NinthDay.BAD);
        c.due("rule(-1)", x.rule(-1), NinthDay.BAD);
        c.due("rule(HIGH)", x.rule(HIGH), NinthDay.BAD);
        NinthDay y = Check.of("w010 d200 d100 d100");
        rule(c, y, 1, 2, 1);
        NinthDay z = Check.of("w050 d330 d330 d400 d510");
        z.day(10, 0);
        // Chains are 0, 1, 0, 1; costs 1, 0, 4, 3.
        rule(c, z, 2, 11, 4);
    }

    private static void rule(Check c, NinthDay x, int rule, int set, int cost) {
        c.told("rule(" + rule + ")", x, x.rule(rule), set, cost);
    }

    private static void plans(Check c) {
        NinthDay x = Check.of("w010 d200 d100");
        c.due("plan(0, 2)", x.plan(0, 2), 0);
        c.found("an empty row", x, x.at(2, 0), BEYOND);
        c.due("plan(1, 2)", x.plan(1, 2), 1);
        row(c, x, 2, 2);
        c.due("plan(2, 2): the second first, then it costs nothing", x.plan(2, 2), 2);
        row(c, x, 2, 2, 2);
        NinthDay y = Check.of("w010 d100 d100");
        c.due("one, which is free then, so both", y.plan(2, 0), 3);
        row(c, y, 0, 1, 3);
        y.most();
        c.due("plan(3, 0)", y.plan(3, 0), 5);
        c.due("plan leaves asked()", y.asked(), 1);
        row(c, y, 0, 1, 3, 3);
        NinthDay z = Check.of("w020 r100 r100");
        c.due("both on days 1 and 2, rain on day 3: one of both", z.plan(3, 0), 5);
        row(c, z, 0, 3, 3, 1);
        // Were the first one not to slip on day 1, both could be kept on day 2, for 4 and 3.
        NinthDay s = Check.of("w079 d510 f800");
        c.due("nothing is off", s.plan(2, 0), 2);
        row(c, s, 0, 1, 1);
        NinthDay g = Check.of("w409 d100 d100 d100");
        g.drop(1);
        long before = g.digest();
        c.due("without one given up", g.plan(3, 5), 6);
        row(c, g, 5, 5, 5, 5);
        g.tear(5);
        c.due("plan is aside", g.digest(), before);
        c.due("plan(-1, 0)", g.plan(-1, 0), NinthDay.BAD);
        c.due("plan(4, 0)", g.plan(4, 0), NinthDay.BAD);
        c.due("plan(0, -1)", g.plan(0, -1), NinthDay.BAD);
        c.due("plan(0, 6)", g.plan(0, 6), NinthDay.BAD);
        c.due("plan(LOW, HIGH)", g.plan(LOW, HIGH), NinthDay.BAD);
        g.drop(0);
        g.drop(2);
        c.due("all given up", g.plan(2, 5), 0);
        row(c, g, 5, 0, 0);
    }

    private static void row(Check c, NinthDay x, int r, int... want) {
        for (int i = 0; i < want.length; i++) {
            c.due("plan, place " + i, Check.read(x, r, i), want[i]);
        }
        c.found("plan has no more", x, x.at(r, want.length), BEYOND);
    }

    private static void till(Check c) {
        NinthDay x = Check.of("w090 d300 d520");
        c.told("3 days by any rule", x, x.till(0), 3, 6);
        c.told("3 days by any rule", x, x.till(3), 3, 6);
        NinthDay y = Check.of("w030 d300 d300");
        // Three days for the first alone, then it is free and the other one needs three.
        c.told("one after the other, the first first", y, y.till(1), 6, 9);
        NinthDay n = Check.of("w000 d100");
        n.most();
        int before = n.asked();
        c.due("never", n.till(0), NinthDay.NONE);
        c.due("NONE leaves asked()", n.asked(), before);
        n.drop(0);
        c.told("all given up", n, n.till(2), 0, 0);
        NinthDay g = Check.of("w090 d300 d900");
        g.drop(1);
        c.told("one given up is not waited for", g, g.till(0), 3, 3);
        NinthDay a = Check.of("w000 d440 d000");
        c.told("at once", a, a.till(3), 0, 0);
        NinthDay f = Check.of("w000 d440 d000 d110 d220 d330");
        c.told("five at once", f, f.till(0), 0, 0);
        Check.write(f, 1, "w000 d440");
        f.year(1);
        c.told("behind a year of more deeds", f, f.till(0), 0, 0);
        NinthDay l = Check.of("w100 s149 d805 r902 s932 r332");
        c.told("the last of 60 days", l, l.till(2), 60, 236);
        NinthDay m = Check.of("w080 r912 r101 h845 s414 h948");
        c.due("one day too late", m.till(2), NinthDay.NONE);
        m.day(m.rule(2), 0);
        c.told("and from the next day on", m, m.till(2), 60, 235);
        c.due("till(4)", a.till(4), NinthDay.BAD);
        c.due("till(-1)", a.till(-1), NinthDay.BAD);
        c.due("till(LOW)", a.till(LOW), NinthDay.BAD);
    }

    private static void better(Check c) {
        NinthDay x = Check.of("w020 d200 d100 d100");
        c.told("better(0)", x, x.better(0), 0, 0);
        c.told("two by RULE 0, one by RULE 1", x, x.better(1), 0, 2);
        NinthDay y = Check.of("w020 d100 d110 d200");
        c.told("like ones: the first", y, y.better(1), 0, 2);
        // RULE 1 has all three on the second day, for 3, 4 and 3.
        NinthDay one = Check.of("w100 d400 r837 r301");
        c.told("RULE 1", one, one.better(2), 1, 5);
        NinthDay two = Check.of("w090 d938 d406 s302");
        c.told("RULE 2", two, two.better(3), 2, 7);
        // RULE 3 has all three on the second day, for 2, 1 and 0.
        NinthDay three = Check.of("w030 f640 f834 d222");
        c.told("RULE 3", three, three.better(2), 3, 5);
        NinthDay z = Check.of("w040 m800 d300 d300");
        int by0 = kept(z, 0, 3);
        int by1 = kept(z, 1, 3);
        int by2 = kept(z, 2, 3);
        int by3 = kept(z, 3, 3);
        int most = Math.max(Math.max(by0, by1), Math.max(by2, by3));
        int first = by0 == most ? 0 : by1 == most ? 1 : by2 == most ? 2 : 3;
        c.told("as the days themselves", z, z.better(3), first, most);
        c.due("better(-1)", z.better(-1), NinthDay.BAD);
        c.due("better(61)", z.better(61), NinthDay.BAD);
        c.due("better(60)", z.better(60) >= 0);
        c.due("better(HIGH)", z.better(HIGH), NinthDay.BAD);
    }

    /** Days truly gone through by a rule, then undone. */
    private static int kept(NinthDay x, int rule, int n) {
        int acts = x.count(2);
        int sum = 0;
        for (int k = 0; k < n; k++) {
            sum += x.day(x.rule(rule), 0);
        }
        x.undo(acts);
        return sum;
    }

    private static void least(Check c) {
        NinthDay x = Check.of("w003 d500 r100 s409 m900 f300");
        c.due("least(0, 0)", x.least(0, 0), 0);
        c.due("least(0, 1)", x.least(0, 1), 5);
        c.due("least(0, 30)", x.least(0, 30), 5);
        c.due("RUN: 1, 0", x.least(1, 2), 1);
        c.due("RUN: 1, 0, 2", x.least(1, 3), 2);
        c.due("SUGAR: 4, 3, 2, 1, 0", x.least(2, 5), 4);
        c.due("SUGAR: 4, 3, 2, 1, 0, 9", x.least(2, 6), 9);
        c.due("SMALL: 4", x.least(3, 30), 4);
        c.due("FRENCH: 2, 0", x.least(4, 30), 2);
        NinthDay f = Check.of("w091 f300 f000");
        f.day(3, 0);
        c.due("FRENCH of a chain: 0", f.least(0, 30), 0);
        f.day(0, 0);
        c.due("FRENCH of no chain: 1", f.least(1, 30), 1);
        x.drop(0);
        c.due("given up or not", x.least(0, 3), 5);
        NinthDay d = Check.of("w000 s009");
        for (int k = 0; k < 6; k++) {
            d.day(0, 0);
        }
        c.due("from day 7 on: day 13 is the seventh", d.least(0, 6), 0);
        c.due("from day 7 on: day 13 is the seventh", d.least(0, 7), 9);
        c.due("least(-1, 0)", x.least(-1, 0), NinthDay.BAD);
        c.due("least(5, 0)", x.least(5, 0), NinthDay.BAD);
        c.due("least(0, -1)", x.least(0, -1), NinthDay.BAD);
        c.due("least(0, 31)", x.least(0, 31), NinthDay.BAD);
        c.due("least(LOW, HIGH)", x.least(LOW, HIGH), NinthDay.BAD);
        c.due("least leaves asked()", x.asked(), 0);
    }

    private static void chains(Check c) {
        NinthDay x = Check.of("w020 d200 d200");
        c.told("chain(0, 0, 0)", x, x.chain(0, 0, 0), 0, 0);
        // By RULE 1: {0}, {0}, {0}, ..: costs 2, 1, 0, 0; the second one is kept from day 3 on.
        c.told("chain(0, 4, 1)", x, x.chain(0, 4, 1), 4, 4);
        c.told("chain(1, 4, 1)", x, x.chain(1, 4, 1), 2, 2);
        NinthDay y = Check.of("w010 d100 d200");
        y.day(1, 0);
        y.day(1, 0);
        y.day(1, 0);
        c.told("the one that it has now", y, y.chain(0, 0, 3), 3, 0);
        c.told("goes on", y, y.chain(0, 2, 3), 5, 2);
        y.will(0);
        c.told("never kept", y, y.chain(1, 60, 0), 0, 0);
        y.drop(0);
        c.told("given up: as it is", y, y.chain(0, 60, 0), 3, 0);
        NinthDay r = Check.of("w010 r101");
        r.day(1, 0);
        // Day 2 costs 0, day 3 2 (slips), day 4 1, day 5 0, day 6 2 (slips).
        c.told("chain broken by rain", r, r.chain(0, 5, 0), 2, 3);
        for (int v : new int[] {-1, 2, LOW, HIGH}) {
            c.due("chain(" + v + ", 0, 0)", x.chain(v, 0, 0), NinthDay.BAD);
        }
        c.due("chain(0, -1, 0)", x.chain(0, -1, 0), NinthDay.BAD);
        c.due("chain(0, 61, 0)", x.chain(0, 61, 0), NinthDay.BAD);
        c.due("chain(0, 0, -1)", x.chain(0, 0, -1), NinthDay.BAD);
        c.due("chain(0, 0, 4)", x.chain(0, 0, 4), NinthDay.BAD);
    }

    private static void withoutDeeds(Check c) {
        NinthDay x = new NinthDay();
        c.due("cost(0)", x.cost(0), 0);
        c.due("cost(1)", x.cost(1), NinthDay.BAD);
        c.due("most()", x.most(), NinthDay.STATE);
        c.due("rule(0)", x.rule(0), NinthDay.STATE);
        c.due("rule(4)", x.rule(4), NinthDay.BAD);
        c.due("plan(0, 0)", x.plan(0, 0), NinthDay.STATE);
        c.due("plan(4, 0)", x.plan(4, 0), NinthDay.BAD);
        c.due("count(8)", x.count(8), 0);
        c.due("till(0)", x.till(0), NinthDay.STATE);
        c.due("till(4)", x.till(4), NinthDay.BAD);
        c.due("better(0)", x.better(0), NinthDay.STATE);
        c.due("better(61)", x.better(61), NinthDay.BAD);
        c.due("least(0, 0)", x.least(0, 0), NinthDay.BAD);
        c.due("chain(0, 0, 0)", x.chain(0, 0, 0), NinthDay.BAD);
    }
}
