/** The boundary cases of promises 40 to 46, and of what is told of answers: asked, upper, lower, count, digest. */
final class EdgesOfToldTest {
    // They COST 4, 2, 3 on DAY 1.
    private static final String YEAR = "year w060 d510 s422 f730\n";

    public static void main(String[] args) {
        Edges e = new Edges();
        asked(e);
        askedStays(e);
        upperAndLower(e);
        count(e);
        finding(e);
        findings(e);
        constants(e);
        answersInOrder(e);
        calls(e);
        digest(e);
        digestOfAll(e);
        e.end("EdgesOfToldTest");
    }

    private static void asked(Edges e) {
        e.edge("40 asked: 0 before", "asked() = 0");
        e.edge("40 asked: 0 before, whatever else is called", "text(0, 1) = 1", "put(0, 0, 5) = 1032", "row(0, 3) = 3",
                "copy(0, 0, 0, 1, 2) = 1", YEAR, "mark(1, 2) = 0", "day(2, 0) = 1", "cost(7) = 9",
                "plan(1, 1) = 2", "least(0, 3) = 5", "tempt(2) = 1", "odds(1, 1) = 1", "mid(1) = 1", "lots(1, 1) = 1",
                "asked() = 0");
        String[] telling = {"lay(0, 0, 8) = 1 : 1", "at(0, 1) = 1 : 4", "mean(0) = 1 : 2", "deed(2, 1) = 1 : 7",
            "most() = 2 : 6", "rule(1) = 3 : 6", "till(0) = 7 : 19", "better(1) = 0 : 2", "chain(1, 2, 1) = 2 : 2",
            "fits(5) = 1 : 6", "fits(1) = 1 : NONE", "sure(5) = 6 : 1", "ask(5) = 0 : 1", "habits(0, 0) = 2 : 32",
            "test(0, 0) = 3 : 2", "spare(2) = 3 : 3"};
        for (String call : telling) {
            String told = call.substring(call.lastIndexOf(' ') + 1);
            // Another number is told ahead of it, so that this one can't be there already.
            e.edge("40 asked: what it told, behind others", YEAR, "row 0 1 4", "row 1 77", "at(1, 0) = 1 : 77", call,
                    "kinds(0, 0) = 7", "asked() = " + told);
        }
    }

    private static void askedStays(Edges e) {
        String ahead = YEAR + "row(1, 1) = 1\nlay(1, 0, 77) = 1\nat(1, 0) = 1 : 77\n";
        String[] refused = {"lay(6, 0, 1) = BAD", "lay(0, 0, 1) = NOTHING", "lay(1, 1, 1) = BEYOND", "at(6, 0) = BAD",
            "at(0, 0) = NOTHING", "at(1, 1) = BEYOND", "mean(6) = BAD", "mean(0) = NOTHING", "deed(3, 0) = BAD",
            "deed(0, 8) = BAD", "rule(4) = BAD", "till(4) = BAD", "better(61) = BAD", "chain(0, 0, 4) = BAD",
            "fits(100) = BAD", "sure(100) = BAD", "sure(99) = NOUGHT", "ask(100) = BAD", "ask(99) = NOUGHT",
            "habits(0, 6) = BAD", "habits(0, 0) = NOTHING", "habits(0, 1) = SIZE", "test(0, 6) = BAD",
            "test(0, 1) = SIZE", "spare(6) = BAD"};
        for (String call : refused) {
            e.edge("40 asked: not of what is refused", ahead, call, "asked() = 77");
        }
        e.edge("40 asked: not of what answers NONE, till", "year w000 d100", "row 0 77", "at(0, 0) = 1 : 77",
                "till(0) = NONE", "asked() = 77");
        e.edge("40 asked: not of what answers NONE, ask", "year w000 d100", "row 0 77", "at(0, 0) = 1 : 77",
                "drop(0) = 0", "ask(0) = NONE", "asked() = 77");
        e.edge("40 asked: not of what answers NONE, test", "year w000 d100", "row 0 77", "row 1 1 9",
                "at(0, 0) = 1 : 77", "test(0, 1) = NONE", "asked() = 77");
        e.edge("40 asked: not of what answers NONE, spare", "year w000 d100", "row 0 77", "at(0, 0) = 1 : 77",
                "spare(2) = NONE", "asked() = 77");
        e.edge("40 asked: STATE, no DEEDS", "row 0 77", "at(0, 0) = 1 : 77", "most() = STATE", "rule(0) = STATE",
                "till(0) = STATE", "better(0) = STATE", "fits(0) = STATE", "sure(0) = STATE", "ask(0) = STATE",
                "spare(0) = STATE", "asked() = 77");
    }

    private static void upperAndLower(Edges e) {
        e.edge("41 upper, 42 lower: 0, 1 before", "upper() = 0", "lower() = 1");
        e.edge("41 upper, 42 lower: told last by odds, mid, fits", YEAR, "odds(2, 4) = 1 : 4/9", "upper() = 4",
                "lower() = 9", "mid(4) = 1 : 6/1", "upper() = 6", "lower() = 1", "odds(1, 3) = 1 : 15/16",
                "fits(5) = 1 : 6 : 1/1", "upper() = 1", "lower() = 1");
        e.edge("41 upper, 42 lower: not of what is refused", YEAR, "odds(2, 4) = 1 : 4/9", "odds(6, 4) = BAD",
                "odds(2, 13) = BAD", "mid(13) = BAD", "fits(100) = BAD", "upper() = 4", "lower() = 9");
        e.edge("41 upper, 42 lower: a new YEAR leaves them", YEAR, "odds(2, 4) = 1 : 4/9", "year w000 d000",
                "upper() = 4", "lower() = 9");
        e.edge("41 upper, 42 lower: STATE, no DEEDS", "odds(0, 0) = STATE", "mid(0) = STATE", "fits(0) = STATE",
                "upper() = 0", "lower() = 1");
        e.edge("41 upper: a mean of a ROW is told by asked() alone", "row 0 7", "mean(0) = 1 : 7", "upper() = 0");
    }

    private static void count(Edges e) {
        e.edge("43 count: the DAY is 1 without DEEDS", "count(1) = 1");
        e.edge("43 count: all that a new object has not", "count(0) = 0", "count(2) = 0", "count(3) = 0",
                "count(4) = 0", "count(5) = 0", "count(6) = 0", "count(7) = 0", "count(8) = 0", "count(9) = 0",
                "count(10) = 0");
        e.edge("43 count: 0 DEEDS, given up or not", "year w000 d000 d000", "drop(0) = 1", "count(0) = 2");
        e.edge("43 count: the greatest of 0, 3, 4, 5, 6, 7", "year w409 r090 h090 r090 h090 r090", "count(0) = 5",
                "count(3) = 40", "count(4) = 9", "count(5) = 31", "count(6) = 45", "count(7) = 5");
        e.edge("43 count: the greatest of 1, 2", "year w000 d000", "40 x day(0, 0) = 0", "count(1) = 41",
                "count(2) = 40");
        e.edge("43 count: ACTS that are no DAYS", "year w000 d000", "drop(0) = 0", "take(0) = 1", "will(1) = 0",
                "count(1) = 1", "count(2) = 3");
        e.edge("43 count: 5, 6 of those not given up", "year w000 d040 d020 d010", "drop(1) = 2", "count(5) = 5",
                "count(6) = 5", "drop(0) = 1", "drop(2) = 0", "count(5) = 0", "count(6) = 0");
        e.edge("43 count: 7 RUNS, SHOES too, given up as well", "year w000 r000 h000 d000 s000 f000", "count(7) = 2",
                "drop(0) = 4", "drop(1) = 3", "count(7) = 2", "year w000 d000 s000 m000 f000", "count(7) = 0");
        e.edge("43 count: 8 ROWS, none to six", "row(0, 0) = 0", "row(1, 0) = 0", "row(2, 0) = 0", "row(3, 0) = 0",
                "row(4, 0) = 0", "count(8) = 5", "row(5, 1) = 1", "count(8) = 6", "row(5, 2) = 2", "count(8) = 6",
                "tear(0) = 1", "count(8) = 5");
        e.edge("43 count: 9 TEXTS, none to four", "text(0, 0) = 0", "text(1, 0) = 0", "text(2, 0) = 0", "count(9) = 3",
                "text(3, 1) = 1", "count(9) = 4", "text(3, 0) = 0", "count(9) = 4");
        e.edge("43 count: 10 kept YEARS, none to three", "year w000 d000", "keep(2) = 0", "count(10) = 1",
                "keep(0) = 0", "count(10) = 2", "keep(1) = 0", "count(10) = 3", "keep(1) = 0", "count(10) = 3");
        e.range("", "count(_)", 0, 10);
    }

    private static void finding(Edges e) {
        e.edge("44 finding: 0 before any", "finding() = 0", "row(6, 0) = BAD", "most() = STATE", "finding() = 0");
        e.edge("44 finding: 1 NOTHING, a ROW", "tear(0) = NOTHING", "finding() = 1");
        e.edge("44 finding: 1 NOTHING, a TEXT", "fault(0) = NOTHING", "finding() = 1");
        e.edge("44 finding: 1 NOTHING, a kept YEAR", "on(0) = NOTHING", "finding() = 1");
        e.edge("44 finding: 2 BEYOND", "row(0, 0) = 0", "at(0, 0) = BEYOND", "finding() = 2");
        e.edge("44 finding: 3 UNLIKE, another KIND", "year w000 d000", "mark(0, 1) = UNLIKE", "finding() = 3");
        e.edge("44 finding: 3 UNLIKE, a number that is none", "year w000 d000", "row 0 0 0", "kinds(0, 0) = UNLIKE",
                "finding() = 3");
        e.edge("44 finding: 4 NOUGHT, shared among none", "row(0, 0) = 0", "mean(0) = NOUGHT", "finding() = 4");
        e.edge("44 finding: 4 NOUGHT, nothing fits", "year w000 d000", "sure(1) = NOUGHT", "finding() = 4");
        e.edge("44 finding: 5 SIZE, fewer than none", "row(0, -1) = SIZE", "finding() = 5");
        e.edge("44 finding: 5 SIZE, not as many as due", "year w000 d000", "row 0 1", "habits(0, 0) = SIZE",
                "finding() = 5");
        e.edge("44 finding: the latest, whatever is answered or refused behind", "row(0, -1) = SIZE",
                "tear(0) = NOTHING", "row(0, 1) = 1", "row(0, 41) = BAD", "most() = STATE", "finding() = 1");
    }

    private static void findings(Edges e) {
        e.edge("45 findings: how often each", "tear(0) = NOTHING", "tear(0) = NOTHING", "on(2) = NOTHING",
                "row(0, -1) = SIZE", "text(0, -1) = SIZE", "findings(1) = 3", "findings(2) = 0", "findings(3) = 0",
                "findings(4) = 0", "findings(5) = 2");
        e.edge("45 findings: none at first", "findings(1) = 0", "findings(2) = 0", "findings(3) = 0",
                "findings(4) = 0", "findings(5) = 0");
        e.edge("45 findings: a new YEAR leaves them", "tear(0) = NOTHING", "year w000 d000", "undo(0) = 0",
                "findings(1) = 1", "finding() = 1");
        e.edge("45 findings: BAD is none of them", "findings(0) = BAD", "finding() = 0");
        e.range("", "findings(_)", 1, 5);
    }

    /** The constants as the class has them, which javac would otherwise copy into this test. */
    private static void constants(Edges e) {
        e.constant("BAD", -1);
        e.constant("FULL", -2);
        e.constant("FINDING", -3);
        e.constant("STATE", -4);
        e.constant("SPENT", -6);
        e.constant("NONE", -9);
    }

    /** The first of the answers that fits, in this order; where two of them can fit at once. */
    private static void answersInOrder(Edges e) {
        e.edge("ANSWERS: BAD ahead of STATE", "day(1, 0) = BAD", "will(41) = BAD", "keep(3) = BAD", "rule(4) = BAD",
                "plan(4, 0) = BAD", "till(4) = BAD", "better(61) = BAD", "fits(100) = BAD", "sure(100) = BAD",
                "ask(100) = BAD", "spare(6) = BAD", "tempt(6) = BAD", "odds(6, 0) = BAD", "mid(13) = BAD",
                "lots(21, 1) = BAD");
        e.edge("ANSWERS: BAD ahead of FINDING", "row(6, -1) = BAD", "lay(6, 0, 0) = BAD", "at(6, 0) = BAD",
                "tear(6) = BAD", "copy(6, 0, 0, 0, -1) = BAD", "mean(6) = BAD", "text(4, -1) = BAD",
                "put(4, 0, 0) = BAD", "fault(4) = BAD", "year(4) = BAD", "mark(0, 1) = BAD", "on(3) = BAD",
                "habits(0, 0) = BAD", "kinds(0, 0) = BAD", "test(0, 0) = BAD");
        e.edge("ANSWERS: STATE ahead of FINDING", "sure(1) = STATE", "ask(1) = STATE");
        e.edge("ANSWERS: STATE behind NOTHING, of a YEAR", "text 0 x", "year(1) = NOTHING", "year(0) = STATE");
    }

    private static void calls(Edges e) {
        StringBuilder calls = new StringBuilder("row(0, 1) = 1\n");
        for (int k = 1; k <= 511; k++) {
            calls.append("lay(0, 0, " + k + ") = 1 : " + (k - 1) + "\n");
        }
        e.edge("512 calls", calls.toString());
    }

    private static void digest(Edges e) {
        long none = fold(0, 1, 0, 0, 0, 0, 0, 0, 0, 0, 0, -1, -1, -1, -1, -1, -1, -1, -1, -1, -1, -1, -1, -1);
        e.edge("46 digest: of a new object", "digest() = " + none);
        e.edge("46 digest: a ROW without places, not missing", "row(0, 0) = 0", "digest() = "
                + fold(0, 1, 0, 0, 0, 0, 0, 0, 1, 0, 0, -1, -1, -1, 0, -1, -1, -1, -1, -1, -1, -1, -1, -1),
                "tear(0) = 1", "digest() = " + none);
        e.edge("46 digest: a TEXT without bytes, not missing", "text(3, 0) = 0", "digest() = "
                + fold(0, 1, 0, 0, 0, 0, 0, 0, 0, 1, 0, -1, -1, -1, -1, -1, -1, -1, -1, -1, -1, -1, -1, 0));
        e.edge("46 digest: the last place of the last ROW, the greatest and the least int", "row(5, 2) = 2",
                "lay(5, 0, HIGH) = 1", "lay(5, 1, LOW) = 1", "digest() = " + fold(0, 1, 0, 0, 0, 0, 0, 0, 1, 0, 0,
                -1, -1, -1, -1, -1, -1, -1, -1, 2, Integer.MAX_VALUE, Integer.MIN_VALUE, -1, -1, -1, -1));
        e.edge("46 digest: bytes from -128 to 127", "text(0, 3) = 3", "put(0, 0, 128) = 1032", "put(0, 1, 127) = 1032",
                "digest() = " + fold(0, 1, 0, 0, 0, 0, 0, 0, 0, 1, 0, -1, -1, -1, -1, -1, -1, -1, -1, -1,
                3, -128, 127, 32, -1, -1, -1));
        e.edge("46 digest: asked() stays, nor is it a part", "row 0 7", "at(0, 0) = 1 : 7", "digest() = "
                + fold(0, 1, 0, 0, 0, 0, 0, 0, 1, 0, 0, -1, -1, -1, 1, 7, -1, -1, -1, -1, -1, -1, -1, -1, -1),
                "asked() = 7", "row(1, -1) = SIZE", "digest() = "
                + fold(0, 1, 0, 0, 0, 0, 0, 0, 1, 0, 0, -1, -1, -1, 1, 7, -1, -1, -1, -1, -1, -1, -1, -1, -1));
        e.edge("46 digest: kept YEARS, without ACTS and missing", "year w000d000", "keep(1) = 0", "drop(0) = 0",
                "keep(2) = 1", "digest() = " + fold(1, 1, 1, 0, 0, 0, 0, 0, 0, 1, 2, 0, 0, 0, 0, 0, 0, 1, 0,
                -1, 0, 1, -1, -1, -1, -1, -1, -1,
                8, 'w', '0', '0', '0', 'd', '0', '0', '0', -1, -1, -1));
        e.edge("46 digest: of each DEED all eight", "year w409f678h945", "day(1, 2) = 1", "drop(0) = 1", "digest() = "
                + fold(2, 2, 2, 40, 8, 2, 4, 1, 0, 1, 0,
                5, 6, 9, 8, 0, 1, 1, 1,
                4, 9, 4, 5, 4, 0, 0, 0,
                -1, -1, -1, -1, -1, -1, -1, -1, -1,
                12, 'w', '4', '0', '9', 'f', '6', '7', '8', 'h', '9', '4', '5', -1, -1, -1));
    }

    /** All that there can be: five DEEDS, 40 ACTS, three kept YEARS, six ROWS of 40, four TEXTS of 60. */
    private static void digestOfAll(Edges e) {
        String year = "w000d000d000d000d000d000" + " ".repeat(36);
        StringBuilder made = new StringBuilder("text 0 '" + year + "'\nyear(0) = 5\n40 x day(31, 0) = 5\n");
        long h = 17;
        for (int v : new int[] {5, 41, 40, 0, 0, 31, 45, 0, 6, 4, 3}) {
            h = 31 * h + v;
        }
        for (int i = 0; i < 5; i++) {
            for (int v : new int[] {0, 0, 9, 0, 0, 40, 0, 40}) {
                h = 31 * h + v;
            }
        }
        for (int k = 0; k < 3; k++) {
            made.append("keep(" + k + ") = 40\n");
            h = 31 * h + 40;
        }
        for (int r = 0; r < 6; r++) {
            made.append("row(" + r + ", 40) = 40\n");
            h = 31 * h + 40;
            for (int i = 0; i < 40; i++) {
                int v = (r - 3) * 357913941 + i;
                made.append("lay(" + r + ", " + i + ", " + v + ") = 1 : 0\n");
                h = 31 * h + v;
            }
        }
        for (int t = 0; t < 4; t++) {
            made.append(t == 0 ? "" : "text(" + t + ", 60) = 60\n");
            h = 31 * h + 60;
            for (int i = 0; i < 60; i++) {
                h = 31 * h + (t == 0 ? year.charAt(i) : 32);
            }
        }
        e.edge("46 digest: of all that there can be", made.toString(), "digest() = " + h);
    }

    private static long fold(int... values) {
        long h = 17;
        for (int v : values) {
            h = 31 * h + v;
        }
        return h;
    }
}
