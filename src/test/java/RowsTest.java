/** Promises 1 to 7: a new object, row, lay, at, tear, copy, mean. */
final class RowsTest {
    private static final int NOTHING = 1, BEYOND = 2, NOUGHT = 4, SIZE = 5;
    private static final int LOW = Integer.MIN_VALUE, HIGH = Integer.MAX_VALUE;

    public static void main(String[] args) {
        Check c = new Check();
        aNewObject(c);
        rows(c);
        places(c);
        copies(c);
        means(c);
        c.end("RowsTest");
    }

    private static void aNewObject(Check c) {
        NinthDay x = new NinthDay();
        int[] counts = {0, 1, 0, 0, 0, 0, 0, 0, 0, 0, 0};
        for (int what = 0; what < counts.length; what++) {
            c.due("new: count(" + what + ")", x.count(what), counts[what]);
        }
        c.due("new: asked()", x.asked(), 0);
        c.due("new: upper()", x.upper(), 0);
        c.due("new: lower()", x.lower(), 1);
        c.due("new: finding()", x.finding(), 0);
        for (int f = 1; f <= 5; f++) {
            c.due("new: findings(" + f + ")", x.findings(f), 0);
        }
        for (int r = 0; r < 6; r++) {
            c.found("new: tear(" + r + ")", x, x.tear(r), NOTHING);
        }
        for (int t = 0; t < 4; t++) {
            c.found("new: fault(" + t + ")", x, x.fault(t), NOTHING);
        }
    }

    private static void rows(Check c) {
        NinthDay x = new NinthDay();
        c.due("row(0, 40)", x.row(0, 40), 40);
        c.due("row(5, 0)", x.row(5, 0), 0);
        c.due("count(8)", x.count(8), 2);
        c.due("row(0, 41)", x.row(0, 41), NinthDay.BAD);
        c.due("row(-1, 1)", x.row(-1, 1), NinthDay.BAD);
        c.due("row(6, 1)", x.row(6, 1), NinthDay.BAD);
        c.due("row(6, -1)", x.row(6, -1), NinthDay.BAD);
        c.due("row(LOW, 1)", x.row(LOW, 1), NinthDay.BAD);
        c.due("row(HIGH, HIGH)", x.row(HIGH, HIGH), NinthDay.BAD);
        c.due("finding()", x.finding(), 0);
        c.found("row(0, -1)", x, x.row(0, -1), SIZE);
        c.found("row(0, LOW)", x, x.row(0, LOW), SIZE);
        c.due("findings(5)", x.findings(5), 2);
        c.due("the refused row(0, -1) left 40 places", x.at(0, 39), 1);
        x.lay(0, 2, 7);
        c.due("row(0, 3)", x.row(0, 3), 3);
        c.told("at(0, 2) of a row made anew", x, x.at(0, 2), 1, 0);
        c.found("at(0, 3)", x, x.at(0, 3), BEYOND);
        c.due("tear(0)", x.tear(0), 1);
        c.due("count(8)", x.count(8), 1);
        c.found("tear(0) again", x, x.tear(0), NOTHING);
        c.found("at(0, 0)", x, x.at(0, 0), NOTHING);
        c.due("tear(6)", x.tear(6), NinthDay.BAD);
        c.due("tear(-1)", x.tear(-1), NinthDay.BAD);
        x.row(1, 40);
        x.lay(1, 39, 5);
        x.tear(1);
        x.row(1, 40);
        c.told("a row torn and made again is of 0", x, x.at(1, 39), 1, 0);
    }

    private static void places(Check c) {
        NinthDay x = new NinthDay();
        x.row(3, 2);
        c.told("lay(3, 0, LOW)", x, x.lay(3, 0, LOW), 1, 0);
        c.told("lay(3, 0, HIGH)", x, x.lay(3, 0, HIGH), 1, LOW);
        c.told("at(3, 0)", x, x.at(3, 0), 1, HIGH);
        c.told("at(3, 1)", x, x.at(3, 1), 1, 0);
        x.lay(3, 1, 9);
        c.told("at(3, 0)", x, x.at(3, 0), 1, HIGH);
        c.found("lay(3, 2, 1)", x, x.lay(3, 2, 1), BEYOND);
        c.found("lay(3, -1, 1)", x, x.lay(3, -1, 1), BEYOND);
        c.found("at(3, HIGH)", x, x.at(3, HIGH), BEYOND);
        c.found("at(3, LOW)", x, x.at(3, LOW), BEYOND);
        c.due("a refused call leaves asked()", x.asked(), HIGH);
        c.found("lay(2, 0, 1)", x, x.lay(2, 0, 1), NOTHING);
        c.found("at(4, -1)", x, x.at(4, -1), NOTHING);
        c.due("lay(6, 0, 1)", x.lay(6, 0, 1), NinthDay.BAD);
        c.due("lay(-1, 0, 1)", x.lay(-1, 0, 1), NinthDay.BAD);
        c.due("at(6, 0)", x.at(6, 0), NinthDay.BAD);
        c.due("at(-1, 0)", x.at(-1, 0), NinthDay.BAD);
        c.due("findings(1)", x.findings(1), 2);
        c.due("findings(2)", x.findings(2), 4);
    }

    private static void copies(Check c) {
        NinthDay x = new NinthDay();
        Check.fill(x, 0, 1, 2, 3, 4, 5);
        Check.fill(x, 1, 9, 9, 9);
        c.due("copy(0, 1, 1, 0, 2)", x.copy(0, 1, 1, 0, 2), 1);
        row(c, x, 1, 2, 3, 9);
        row(c, x, 0, 1, 2, 3, 4, 5);
        c.due("copy(0, 0, 0, 1, 4): forwards on itself", x.copy(0, 0, 0, 1, 4), 1);
        row(c, x, 0, 1, 1, 2, 3, 4);
        c.due("copy(0, 2, 0, 0, 3): backwards on itself", x.copy(0, 2, 0, 0, 3), 1);
        row(c, x, 0, 2, 3, 4, 3, 4);
        c.due("copy(0, 5, 1, 3, 0): none at both ends", x.copy(0, 5, 1, 3, 0), 1);
        c.found("copy(0, 6, 1, 3, 0)", x, x.copy(0, 6, 1, 3, 0), BEYOND);
        c.found("copy(0, 5, 1, 4, 0)", x, x.copy(0, 5, 1, 4, 0), BEYOND);
        c.found("copy(0, -1, 1, 0, 0)", x, x.copy(0, -1, 1, 0, 0), BEYOND);
        c.found("copy(0, 0, 1, -1, 0)", x, x.copy(0, 0, 1, -1, 0), BEYOND);
        c.found("copy(0, 0, 1, 0, 4)", x, x.copy(0, 0, 1, 0, 4), BEYOND);
        c.found("copy(1, 0, 0, 0, 4)", x, x.copy(1, 0, 0, 0, 4), BEYOND);
        c.found("copy(0, 1, 0, 0, 5)", x, x.copy(0, 1, 0, 0, 5), BEYOND);
        c.found("copy(0, 0, 0, 1, 5)", x, x.copy(0, 0, 0, 1, 5), BEYOND);
        c.found("copy(0, 1, 1, 0, HIGH)", x, x.copy(0, 1, 1, 0, HIGH), BEYOND);
        c.found("copy(0, HIGH, 1, HIGH, HIGH)", x, x.copy(0, HIGH, 1, HIGH, HIGH), BEYOND);
        c.found("copy(0, 0, 1, 0, -1)", x, x.copy(0, 0, 1, 0, -1), SIZE);
        c.found("copy(2, 0, 3, 0, -1): SIZE ahead of NOTHING", x, x.copy(2, 0, 3, 0, -1), SIZE);
        c.found("copy(2, 0, 1, 0, 0)", x, x.copy(2, 0, 1, 0, 0), NOTHING);
        c.found("copy(1, 9, 2, 0, 0): NOTHING ahead of BEYOND", x, x.copy(1, 9, 2, 0, 0), NOTHING);
        c.due("copy(6, 0, 0, 0, -1)", x.copy(6, 0, 0, 0, -1), NinthDay.BAD);
        c.due("copy(0, 0, 6, 0, 0)", x.copy(0, 0, 6, 0, 0), NinthDay.BAD);
        c.due("copy(-1, 0, 0, 0, 0)", x.copy(-1, 0, 0, 0, 0), NinthDay.BAD);
        c.due("copy(0, 0, -1, 0, 0)", x.copy(0, 0, -1, 0, 0), NinthDay.BAD);
        row(c, x, 0, 2, 3, 4, 3, 4);
        row(c, x, 1, 2, 3, 9);
        Check.fill(x, 3, 5, 6, 7, 8);
        x.row(5, 40);
        c.due("copy(3, 1, 5, 37, 3): to the last place", x.copy(3, 1, 5, 37, 3), 1);
        c.due("the place ahead", Check.read(x, 5, 36), 0);
        c.due("the last place", Check.read(x, 5, 39), 8);
        c.due("copy(5, 38, 3, 0, 2)", x.copy(5, 38, 3, 0, 2), 1);
        row(c, x, 3, 7, 8, 7, 8);
        x.row(4, 40);
        c.due("copy(5, 0, 4, 0, 40): all", x.copy(5, 0, 4, 0, 40), 1);
        c.due("the last place", Check.read(x, 4, 39), 8);
    }

    private static void means(Check c) {
        NinthDay x = new NinthDay();
        Check.fill(x, 0, 1, 2, 4);
        c.told("mean of 7 by 3", x, x.mean(0), 1, 2);
        Check.fill(x, 0, 6);
        c.told("mean of one", x, x.mean(0), 1, 6);
        Check.fill(x, 0, -1, -2, -4);
        c.told("mean of -7 by 3", x, x.mean(0), 1, -2);
        Check.fill(x, 0, HIGH, HIGH, HIGH, HIGH);
        c.told("mean of the largest", x, x.mean(0), 1, HIGH);
        Check.fill(x, 0, LOW, LOW, LOW);
        c.told("mean of the least", x, x.mean(0), 1, LOW);
        c.due("mean leaves upper()", x.upper(), 0);
        x.row(1, 0);
        c.found("mean of none", x, x.mean(1), NOUGHT);
        c.found("mean of a missing row", x, x.mean(2), NOTHING);
        c.due("mean(6)", x.mean(6), NinthDay.BAD);
        c.due("mean(-1)", x.mean(-1), NinthDay.BAD);
        c.due("asked() stays", x.asked(), LOW);
    }

    private static void row(Check c, NinthDay x, int r, int... want) {
        for (int i = 0; i < want.length; i++) {
            c.due("row " + r + ", place " + i, Check.read(x, r, i), want[i]);
        }
        c.found("row " + r + " ends", x, x.at(r, want.length), BEYOND);
    }
}
