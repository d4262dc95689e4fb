/** Promises 40 to 46: asked, upper, lower, count, finding, findings, digest. */
final class ToldTest {
    private static final int LOW = Integer.MIN_VALUE, HIGH = Integer.MAX_VALUE;

    public static void main(String[] args) {
        Check c = new Check();
        asked(c);
        shares(c);
        counts(c);
        findings(c);
        digests(c);
        c.end("ToldTest");
    }

    /** Each call that tells by asked(), and behind each one calls that leave it. */
    private static void asked(Check c) {
        NinthDay x = new NinthDay();
        c.due("before", x.asked(), 0);
        Check.write(x, 0, "w060 d510 s422 f730");
        x.year(0);
        c.due("text, put, year", x.asked(), 0);
        x.row(0, 2);
        stays(c, x, x.lay(0, 0, 8), 1, 0);
        stays(c, x, x.lay(0, 0, 3), 1, 8);
        stays(c, x, x.at(0, 0), 1, 3);
        stays(c, x, x.mean(0), 1, 1);
        stays(c, x, x.deed(2, 1), 1, 7);
        stays(c, x, x.most(), 2, 6);
        stays(c, x, x.rule(1), 3, 6);
        stays(c, x, x.till(0), 7, 19);
        stays(c, x, x.better(1), 0, 2);
        stays(c, x, x.chain(1, 2, 1), 2, 2);
        stays(c, x, x.fits(5), 1, 6);
        stays(c, x, x.fits(1), 1, NinthDay.NONE);
        stays(c, x, x.sure(5), 6, 1);
        stays(c, x, x.ask(5), 0, 1);
        Check.fill(x, 0, 1, 4);
        stays(c, x, x.habits(0, 0), 2, 32);
        stays(c, x, x.test(0, 0), 3, 2);
        stays(c, x, x.spare(2), 3, 3);
    }

    private static void stays(Check c, NinthDay x, int got, int want, int asked) {
        c.told("a call that tells", x, got, want, asked);
        x.text(3, 1);
        x.put(3, 0, 5);
        x.fault(3);
        x.year(3);
        x.mark(0, 1);
        x.row(5, 1);
        x.copy(5, 0, 5, 0, 1);
        x.tear(5);
        x.keep(0);
        x.day(0, 0);
        x.drop(0);
        x.take(0);
        x.will(1);
        x.lots(2, 9);
        x.undo(2);
        x.on(0);
        x.cost(1);
        x.plan(1, 5);
        x.least(0, 4);
        x.kinds(0, 0);
        x.tempt(2);
        x.odds(1, 1);
        x.mid(1);
        x.count(1);
        x.digest();
        x.at(9, 0);
        x.at(0, 60);
        x.lay(4, 0, 0);
        x.mean(4);
        x.deed(7, 7);
        x.rule(9);
        x.till(9);
        x.better(-1);
        x.chain(0, 0, 7);
        x.fits(-1);
        x.sure(98);
        x.ask(98);
        x.habits(0, 4);
        x.test(0, 4);
        x.spare(5);
        x.spare(6);
        c.due("asked() stays", x.asked(), asked);
    }

    private static void shares(Check c) {
        NinthDay x = Check.of("w060 d510 s422 f730");
        c.due("upper() before", x.upper(), 0);
        c.due("lower() before", x.lower(), 1);
        // RULE 0 keeps the second and the third.
        c.shared("odds(2, 4)", x, x.odds(2, 4), 4, 9);
        Check.fill(x, 0, 1, 2);
        x.mean(0);
        x.most();
        x.fits(-1);
        x.odds(9, 9);
        x.mid(-1);
        c.due("upper() stays", x.upper(), 4);
        c.due("lower() stays", x.lower(), 9);
        c.shared("fits(5)", x, x.fits(5), 1, 1);
        c.shared("fits(98)", x, x.fits(98), 0, 1);
        c.shared("mid(4): 0, (24 + 0) and (40 + 8) by 12", x, x.mid(4), 6, 1);
        Check.write(x, 1, "w000d000");
        x.year(1);
        c.due("upper() stays with a new year", x.upper(), 6);
    }

    private static void counts(Check c) {
        NinthDay x = Check.of("w123 h510 r422 f730 d000");
        x.row(4, 0);
        x.text(2, 0);
        x.day(1, 4);
        x.drop(0);
        x.keep(1);
        x.will(9);
        int[] want = {4, 2, 3, 9, 2, 14, 4, 2, 1, 2, 1};
        for (int what = 0; what < want.length; what++) {
            c.due("count(" + what + ")", x.count(what), want[what]);
        }
        for (int what : new int[] {-1, 11, LOW, HIGH}) {
            c.due("count(" + what + ")", x.count(what), NinthDay.BAD);
        }
    }

    private static void findings(Check c) {
        NinthDay x = Check.of("w123 h510");
        c.due("finding() before", x.finding(), 0);
        x.tear(0);
        c.due("NOTHING", x.finding(), 1);
        x.row(0, 0);
        x.at(0, 0);
        c.due("BEYOND", x.finding(), 2);
        x.mark(0, 2);
        c.due("UNLIKE", x.finding(), 3);
        x.mean(0);
        c.due("NOUGHT", x.finding(), 4);
        x.row(0, -1);
        c.due("SIZE", x.finding(), 5);
        x.row(0, 41);
        x.row(0, 1);
        x.till(0);
        c.due("finding() stays", x.finding(), 5);
        x.on(2);
        x.fault(3);
        int[] times = {3, 1, 1, 1, 1};
        for (int f = 1; f <= 5; f++) {
            c.due("findings(" + f + ")", x.findings(f), times[f - 1]);
        }
        for (int f : new int[] {0, -1, 6, LOW, HIGH}) {
            c.due("findings(" + f + ")", x.findings(f), NinthDay.BAD);
        }
    }

    private static void digests(Check c) {
        NinthDay e = new NinthDay();
        c.due("digest of a new object", e.digest(), fold(0, 1, 0, 0, 0, 0, 0, 0, 0, 0, 0,
                -1, -1, -1, -1, -1, -1, -1, -1, -1, -1, -1, -1, -1));
        NinthDay x = Check.of("w123 h510 s422");
        x.day(1, 2);
        x.drop(1);
        x.keep(1);
        Check.fill(x, 3, HIGH, LOW, -7);
        x.row(5, 0);
        x.text(2, 1);
        x.put(2, 0, 200);
        x.deed(0, 1);
        c.due("digest", x.digest(), fold(2, 2, 2, 12, 2, 1, 2, 1, 2, 2, 1,
                4, 5, 2, 0, 2, 1, 0, 1,
                2, 4, 2, 2, 2, 0, 1, 0,
                -1, 2, -1,
                -1, -1, -1, 3, HIGH, LOW, -7, -1, 0,
                14, 'w', '1', '2', '3', ' ', 'h', '5', '1', '0', ' ', 's', '4', '2', '2', -1, 1, -56, -1));
        c.due("digest leaves asked()", x.asked(), 5);
        c.due("digest again", x.digest(), x.digest());
    }

    private static long fold(int... values) {
        long h = 17;
        for (int v : values) {
            h = 31 * h + v;
        }
        return h;
    }
}
