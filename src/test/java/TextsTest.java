/** Promises 8 to 11: text, put, fault, year. */
final class TextsTest {
    private static final int NOTHING = 1, BEYOND = 2, SIZE = 5;
    private static final int LOW = Integer.MIN_VALUE, HIGH = Integer.MAX_VALUE;

    public static void main(String[] args) {
        Check c = new Check();
        texts(c);
        bytes(c);
        faults(c);
        years(c);
        c.end("TextsTest");
    }

    private static void texts(Check c) {
        NinthDay x = new NinthDay();
        c.due("text(0, 60)", x.text(0, 60), 60);
        c.due("text(3, 0)", x.text(3, 0), 0);
        c.due("count(9)", x.count(9), 2);
        c.due("text(0, 61)", x.text(0, 61), NinthDay.BAD);
        c.due("text(4, 1)", x.text(4, 1), NinthDay.BAD);
        c.due("text(-1, 1)", x.text(-1, 1), NinthDay.BAD);
        c.due("text(4, -1)", x.text(4, -1), NinthDay.BAD);
        c.due("text(LOW, HIGH)", x.text(LOW, HIGH), NinthDay.BAD);
        c.found("text(0, -1)", x, x.text(0, -1), SIZE);
        c.found("text(0, LOW)", x, x.text(0, LOW), SIZE);
        for (int i = 0; i < 60; i++) {
            c.due("a blank at " + i, x.put(0, i, 'x'), 1032);
        }
        c.due("text(0, 2) anew", x.text(0, 2), 2);
        c.due("blank anew", x.put(0, 1, 'x'), 1032);
        c.found("put(0, 2, 1)", x, x.put(0, 2, 1), BEYOND);
    }

    private static void bytes(Check c) {
        NinthDay x = new NinthDay();
        x.text(2, 2);
        int[] laid = {127, 128, 255, 256, -128, -129, LOW, HIGH, 0x1234, 0};
        int[] kept = {127, -128, -1, 0, -128, 127, 0, -1, 0x34, 0};
        for (int k = 0; k < laid.length; k++) {
            x.put(2, 1, laid[k]);
            c.due("put(2, 1, " + laid[k] + ") was", x.put(2, 1, 0), 1000 + kept[k]);
        }
        c.due("the other byte", x.put(2, 0, 0), 1032);
        c.due("put leaves asked()", x.asked(), 0);
        c.found("put(2, -1, 0)", x, x.put(2, -1, 0), BEYOND);
        c.found("put(2, HIGH, 0)", x, x.put(2, HIGH, 0), BEYOND);
        c.found("put(1, 0, 0)", x, x.put(1, 0, 0), NOTHING);
        c.found("put(1, -1, 0)", x, x.put(1, -1, 0), NOTHING);
        c.due("put(4, 0, 0)", x.put(4, 0, 0), NinthDay.BAD);
        c.due("put(-1, 0, 0)", x.put(-1, 0, 0), NinthDay.BAD);
    }

    private static void faults(Check c) {
        fault(c, "", 0);
        fault(c, "   ", 3);
        fault(c, "w", 1);
        fault(c, "w4", 2);
        fault(c, "w40", 3);
        fault(c, "w409", 4);
        fault(c, "w409  ", 6);
        fault(c, "  w409", 6);
        fault(c, "  w409d", 7);
        fault(c, "W409d000", 0);
        fault(c, " d000", 1);
        fault(c, "1w409d000", 0);
        fault(c, "w 409d000", 1);
        fault(c, "w4 09d000", 2);
        fault(c, "w40 9d000", 3);
        fault(c, "w40:d000", 3);
        fault(c, "w40/d000", 3);
        fault(c, "w419d000", 1);
        fault(c, " w999d000", 2);
        fault(c, "w500", 1);
        fault(c, "w50", 1);
        fault(c, "w5", 2);
        fault(c, "w5x0", 2);
        fault(c, "wx00", 1);
        fault(c, "w-10d000", 1);
        fault(c, "w000x000", 4);
        fault(c, "w000 D000", 5);
        fault(c, "w000w000", 4);
        fault(c, "w000 0", 5);
        fault(c, "w0000", 4);
        fault(c, "w000d000 0", 9);
        fault(c, "w000d0000", 8);
        fault(c, "w000d 000", 5);
        fault(c, "w000d0 00", 6);
        fault(c, "w000d00 0", 7);
        fault(c, "w000dx00", 5);
        fault(c, "w000d0x0", 6);
        fault(c, "w000d00x", 7);
        fault(c, "w000d0", 6);
        fault(c, "w000d00", 7);
        fault(c, "w000d000r", 9);
        fault(c, "w000d000r1", 10);
        fault(c, "w000d000q", 8);
        fault(c, "w000d000r000s000m000h000f000", 24);
        fault(c, "w000d000r000s000m000h000 f", 25);
        fault(c, "w000d000r000s000m000h000 9", 25);
        fault(c, "w000d000r000s000m000h000  ", NinthDay.NONE);
        fault(c, "w000d000", NinthDay.NONE);
        fault(c, "w409f999", NinthDay.NONE);
        fault(c, "w399 f999", NinthDay.NONE);
        fault(c, "    w123   r123s456    ", NinthDay.NONE);
        fault(c, "w" + (char) 177 + "09d000", 1);
        fault(c, "w40" + (char) 9 + "d000", 3);
        fault(c, "w000" + (char) 9 + "d000", 4);
        NinthDay x = new NinthDay();
        Check.write(x, 3, "                 w123              r123 s456               ");
        c.due("fault of the longest", x.fault(3), NinthDay.NONE);
        x.text(3, 60);
        c.due("fault of 60 blanks", x.fault(3), 60);
        x.put(3, 59, 'w');
        c.due("fault of an early end at 60", x.fault(3), 60);
        Check.write(x, 0, "w409d999");
        Check.write(x, 0, "w409d");
        c.due("nothing is left of a longer text", x.fault(0), 5);
        c.found("fault(2)", x, x.fault(2), NOTHING);
        c.due("fault(4)", x.fault(4), NinthDay.BAD);
        c.due("fault(-1)", x.fault(-1), NinthDay.BAD);
        c.due("fault makes no year", x.count(0), 0);
    }

    private static void fault(Check c, String text, int want) {
        NinthDay x = new NinthDay();
        Check.write(x, 1, text);
        c.due("fault of '" + text + "'", x.fault(1), want);
        int year = x.year(1);
        c.due("year of '" + text + "' is taken", want == NinthDay.NONE ? year >= 1 : year == NinthDay.STATE);
    }

    private static void years(Check c) {
        NinthDay x = new NinthDay();
        Check.write(x, 0, "  w123 d012 r345s678  m901 h234  ");
        c.due("year(0)", x.year(0), 5);
        int[][] traits = {{0, 0, 1, 2}, {1, 3, 4, 5}, {2, 6, 7, 8}, {3, 9, 0, 1}, {4, 2, 3, 4}};
        for (int i = 0; i < 5; i++) {
            for (int what = 0; what < 4; what++) {
                c.due("deed " + i + ", " + what, Check.trait(x, i, what), traits[i][what]);
            }
        }
        c.due("will", x.count(3), 12);
        c.due("offs", x.count(4), 3);
        x.day(0, 4);
        x.day(1, 0);
        x.drop(2);
        x.keep(1);
        x.better(60);
        Check.write(x, 1, "w007 f123");
        c.due("put leaves the year", x.count(0), 5);
        c.due("year(1)", x.year(1), 1);
        int[] counts = {1, 1, 0, 0, 7, 1, 2, 0};
        for (int what = 0; what < counts.length; what++) {
            c.due("anew, count(" + what + ")", x.count(what), counts[what]);
        }
        c.due("kept years go", x.count(10), 0);
        c.found("on(1)", x, x.on(1), NOTHING);
        int[] fresh = {5, 1, 2, 3, 1, 0, 0, 0};
        c.due("anew, undo(0)", x.undo(0), 0);
        for (int what = 0; what < 8; what++) {
            c.due("anew, deed(0, " + what + ")", Check.trait(x, 0, what), fresh[what]);
        }
        refusedYears(c, x);
    }

    private static void refusedYears(Check c, NinthDay x) {
        x.drop(0);
        x.keep(0);
        Check.write(x, 2, "w1");
        long before = x.digest();
        c.due("year of a fault", x.year(2), NinthDay.STATE);
        c.due("a refused year changes nothing", x.digest(), before);
        c.found("year(3)", x, x.year(3), NOTHING);
        c.due("year(4)", x.year(4), NinthDay.BAD);
        c.due("year(-1)", x.year(-1), NinthDay.BAD);
        c.due("fault(2)", x.fault(2), 2);
        c.due("nor does a fault", x.digest(), before);
        x.till(0);
        c.due("year(0) again", x.year(0), 5);
        c.due("nothing given up", x.count(5), 31);
    }
}
