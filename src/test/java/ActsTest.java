/** Promises 14 to 20 and the terms on acts: day, drop, take, will, undo, keep, on. */
final class ActsTest {
    private static final int NOTHING = 1;
    private static final int LOW = Integer.MIN_VALUE, HIGH = Integer.MAX_VALUE;

    public static void main(String[] args) {
        Check c = new Check();
        days(c);
        refusedDays(c);
        givenUp(c);
        wills(c);
        full(c);
        undone(c);
        kept(c);
        withoutDeeds(c);
        c.end("ActsTest");
    }

    private static void days(Check c) {
        NinthDay x = Check.of("w063 d302 d202 d102 d000");
        c.due("day(7, 0): just the will", x.day(7, 0), 3);
        c.due("day", x.count(1), 2);
        c.due("acts", x.count(2), 1);
        int[] habits = {1, 1, 1, 0};
        for (int i = 0; i < 4; i++) {
            c.due("habit " + i, Check.trait(x, i, 2), habits[i]);
            c.due("chain " + i, Check.trait(x, i, 5), i < 3 ? 1 : 0);
            c.due("kept " + i, Check.trait(x, i, 7), i < 3 ? 1 : 0);
        }
        c.due("day(8, 3)", x.day(8, 3), 1);
        c.due("offs", x.count(4), 1);
        c.due("slipped", Check.trait(x, 2, 2), 0);
        c.due("slipped chain", Check.trait(x, 2, 5), 0);
        c.due("off chain", Check.trait(x, 0, 5), 1);
        c.due("day(0, 6): one off too many", x.day(0, 6), NinthDay.SPENT);
        c.due("day(0, 4): the last off", x.day(0, 4), 0);
        c.due("offs", x.count(4), 0);
        c.due("day(0, 1): none left", x.day(0, 1), NinthDay.SPENT);
        c.due("day(0, 0)", x.day(0, 0), 0);
        c.due("day", x.count(1), 5);
        c.due("acts", x.count(2), 4);
    }

    private static void refusedDays(Check c) {
        NinthDay x = Check.of("w052 d302 d302 d102");
        x.drop(2);
        long before = x.digest();
        c.due("day(3, 0): 6 of 5", x.day(3, 0), NinthDay.SPENT);
        c.due("day(8, 0)", x.day(8, 0), NinthDay.BAD);
        c.due("day(0, 8)", x.day(0, 8), NinthDay.BAD);
        c.due("day(-1, 0)", x.day(-1, 0), NinthDay.BAD);
        c.due("day(0, -1)", x.day(0, -1), NinthDay.BAD);
        c.due("day(LOW, HIGH)", x.day(LOW, HIGH), NinthDay.BAD);
        c.due("day(1, 1)", x.day(1, 1), NinthDay.BAD);
        c.due("day(1, 3)", x.day(1, 3), NinthDay.BAD);
        c.due("day(4, 0): given up", x.day(4, 0), NinthDay.BAD);
        c.due("day(0, 4): given up", x.day(0, 4), NinthDay.BAD);
        c.due("day(7, 0): BAD ahead of SPENT", x.day(7, 0), NinthDay.BAD);
        c.due("refused days change nothing", x.digest(), before);
        c.due("finding()", x.finding(), 0);
    }

    private static void givenUp(Check c) {
        NinthDay x = Check.of("w091 d340 f340 s340");
        x.day(7, 0);
        x.day(7, 0);
        c.due("drop(1)", x.drop(1), 2);
        c.due("open", x.count(5), 5);
        c.due("acts", x.count(2), 3);
        c.due("dropping takes no day", x.count(1), 3);
        c.due("chain stays", Check.trait(x, 1, 5), 2);
        c.due("drop(1) again", x.drop(1), NinthDay.STATE);
        x.day(0, 0);
        c.due("habit of one given up", Check.trait(x, 1, 2), 8);
        c.due("chain of one given up", Check.trait(x, 1, 5), 2);
        c.due("kept of one given up", Check.trait(x, 1, 7), 2);
        c.due("take(1)", x.take(1), 3);
        c.due("open", x.count(5), 7);
        c.due("chain taken up again", Check.trait(x, 1, 5), 0);
        c.due("habit taken up again", Check.trait(x, 1, 2), 8);
        c.due("kept taken up again", Check.trait(x, 1, 7), 2);
        c.due("take(1) again", x.take(1), NinthDay.STATE);
        c.due("drop(0)", x.drop(0), 2);
        c.due("drop(1)", x.drop(1), 1);
        c.due("drop(2)", x.drop(2), 0);
        c.due("take(2)", x.take(2), 1);
        for (int i : new int[] {-1, 3, LOW, HIGH}) {
            c.due("drop(" + i + ")", x.drop(i), NinthDay.BAD);
            c.due("take(" + i + ")", x.take(i), NinthDay.BAD);
        }
    }

    private static void wills(Check c) {
        NinthDay x = Check.of("w121 d900");
        c.due("will(12): it is so", x.will(12), NinthDay.STATE);
        c.due("will(0)", x.will(0), 12);
        c.due("count(3)", x.count(3), 0);
        c.due("day(1, 0)", x.day(1, 0), NinthDay.SPENT);
        c.due("will(40)", x.will(40), 0);
        c.due("will(41)", x.will(41), NinthDay.BAD);
        c.due("will(-1)", x.will(-1), NinthDay.BAD);
        c.due("will(LOW)", x.will(LOW), NinthDay.BAD);
        c.due("will(HIGH)", x.will(HIGH), NinthDay.BAD);
        c.due("count(3)", x.count(3), 40);
        c.due("acts", x.count(2), 2);
        c.due("day", x.count(1), 1);
    }

    private static void full(Check c) {
        NinthDay x = Check.of("w051 d900 d000");
        for (int k = 0; k < 38; k++) {
            x.day(0, 0);
        }
        c.due("lots(3, 1): 41", x.lots(3, 1), NinthDay.FULL);
        c.due("drop(1): the 39th", x.drop(1), 1);
        c.due("lots(1, 1): the 40th", x.lots(1, 1), 0);
        c.due("acts", x.count(2), 40);
        long before = x.digest();
        c.due("day", x.day(0, 0), NinthDay.FULL);
        c.due("day: SPENT ahead of FULL", x.day(1, 0), NinthDay.SPENT);
        c.due("day: BAD ahead of FULL", x.day(2, 0), NinthDay.BAD);
        c.due("drop", x.drop(0), NinthDay.FULL);
        c.due("drop: STATE ahead of FULL", x.drop(1), NinthDay.STATE);
        c.due("drop: BAD ahead of FULL", x.drop(2), NinthDay.BAD);
        c.due("take", x.take(1), NinthDay.FULL);
        c.due("take: STATE ahead of FULL", x.take(0), NinthDay.STATE);
        c.due("take: BAD ahead of FULL", x.take(2), NinthDay.BAD);
        c.due("will", x.will(6), NinthDay.FULL);
        c.due("will: STATE ahead of FULL", x.will(5), NinthDay.STATE);
        c.due("will: BAD ahead of FULL", x.will(41), NinthDay.BAD);
        c.due("lots", x.lots(1, 1), NinthDay.FULL);
        c.due("lots: BAD ahead of FULL", x.lots(0, 1), NinthDay.BAD);
        c.due("what is refused changes nothing", x.digest(), before);
        c.due("undo(40)", x.undo(40), 0);
        c.due("undo(39)", x.undo(39), 1);
        c.due("take, the 40th", x.take(1), 2);
        x.undo(39);
        c.due("drop, the 40th", x.drop(0), 0);
        x.undo(39);
        c.due("will, the 40th", x.will(6), 5);
        x.undo(39);
        c.due("day, the 40th", x.day(0, 0), 0);
        x.undo(20);
        c.due("lots, up to the 40th", x.lots(20, 3) >= 0);
        c.due("acts", x.count(2), 40);
    }

    private static void undone(Check c) {
        NinthDay x = Check.of("w125 d300 s505 f704");
        long[] digests = new long[9];
        digests[0] = x.digest();
        x.day(1, 2);
        digests[1] = x.digest();
        x.drop(0);
        digests[2] = x.digest();
        x.will(20);
        digests[3] = x.digest();
        x.day(6, 0);
        digests[4] = x.digest();
        x.day(4, 2);
        digests[5] = x.digest();
        x.take(0);
        digests[6] = x.digest();
        x.lots(2, 77);
        digests[8] = x.digest();
        c.due("undo(9)", x.undo(9), NinthDay.BAD);
        c.due("undo(-1)", x.undo(-1), NinthDay.BAD);
        c.due("undo(LOW)", x.undo(LOW), NinthDay.BAD);
        c.due("undo(HIGH)", x.undo(HIGH), NinthDay.BAD);
        c.due("undo(8)", x.undo(8), 0);
        c.due("nothing undone", x.digest(), digests[8]);
        c.due("undo(6)", x.undo(6), 2);
        for (int n = 6; n >= 1; n--) {
            c.due("as after " + n, x.digest(), digests[n]);
            c.due("undo(" + (n - 1) + ")", x.undo(n - 1), 1);
        }
        c.due("as at first", x.digest(), digests[0]);
        c.due("undo(0)", x.undo(0), 0);
        c.due("no acts are there any more", x.undo(1), NinthDay.BAD);
    }

    private static void kept(Check c) {
        NinthDay x = Check.of("w125 d300 s505 f704");
        c.due("keep(0) without acts", x.keep(0), 0);
        x.day(1, 2);
        x.drop(0);
        c.due("keep(2)", x.keep(2), 2);
        c.due("kept years", x.count(10), 2);
        long before = x.digest();
        x.will(1);
        x.take(0);
        x.lots(20, 5);
        c.due("on(2)", x.on(2), 2);
        c.due("as it was kept", x.digest(), before);
        c.due("undo on from a kept one", x.undo(1), 1);
        c.due("not given up", x.count(5), 7);
        c.due("the kept one stays", x.on(2), 2);
        c.due("as it was kept, again", x.digest(), before);
        c.due("on(0)", x.on(0), 0);
        c.due("day", x.count(1), 1);
        c.due("offs", x.count(4), 5);
        c.due("acts", x.count(2), 0);
        x.day(0, 0);
        c.due("keep(2) over", x.keep(2), 1);
        c.due("kept years", x.count(10), 2);
        x.undo(0);
        c.due("on(2)", x.on(2), 1);
        c.found("on(1)", x, x.on(1), NOTHING);
        x.undo(0);
        x.will(33);
        x.day(6, 1);
        x.drop(2);
        c.due("keep(1)", x.keep(1), 3);
        before = x.digest();
        x.undo(0);
        x.drop(1);
        x.lots(9, 8);
        c.due("on(1), other acts done", x.on(1), 3);
        c.due("as it was kept, other acts done", x.digest(), before);
        c.due("undo(2), as it was kept", x.undo(2), 1);
        c.due("not given up", x.count(5), 7);
        for (int k : new int[] {-1, 3, LOW, HIGH}) {
            c.due("keep(" + k + ")", x.keep(k), NinthDay.BAD);
            c.due("on(" + k + ")", x.on(k), NinthDay.BAD);
        }
    }

    private static void withoutDeeds(Check c) {
        NinthDay x = new NinthDay();
        c.due("day(0, 0)", x.day(0, 0), NinthDay.STATE);
        c.due("day(1, 0)", x.day(1, 0), NinthDay.BAD);
        c.due("day(0, 1)", x.day(0, 1), NinthDay.BAD);
        c.due("drop(0)", x.drop(0), NinthDay.BAD);
        c.due("take(0)", x.take(0), NinthDay.BAD);
        c.due("will(0)", x.will(0), NinthDay.STATE);
        c.due("will(5)", x.will(5), NinthDay.STATE);
        c.due("will(-1)", x.will(-1), NinthDay.BAD);
        c.due("undo(0)", x.undo(0), 0);
        c.due("undo(1)", x.undo(1), NinthDay.BAD);
        c.due("keep(0)", x.keep(0), NinthDay.STATE);
        c.due("keep(3)", x.keep(3), NinthDay.BAD);
        c.found("on(0)", x, x.on(0), NOTHING);
        c.due("count(10)", x.count(10), 0);
    }
}
