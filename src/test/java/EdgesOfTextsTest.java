/** The boundary cases of promises 8 to 11, and of what is told of a YEAR's TEXT: text, put, fault, year. */
final class EdgesOfTextsTest {
    private static final String DEEDS = "drsmhf";

    public static void main(String[] args) {
        Edges e = new Edges();
        text(e);
        put(e);
        blanks(e);
        head(e);
        figures(e);
        deeds(e);
        ends(e);
        fault(e);
        year(e);
        yearAnew(e);
        yearRefused(e);
        e.end("EdgesOfTextsTest");
    }

    private static void text(Edges e) {
        e.edge("8 text: n blanks, the greatest n", """
            text(0, 60) = 60
            put(0, 0, 1) = 1032
            put(0, 59, 1) = 1032
            put(0, 60, 1) = BEYOND
            """);
        e.edge("8 text: the least n, a TEXT without bytes is there", """
            text(0, 0) = 0
            count(9) = 1
            put(0, 0, 1) = BEYOND
            fault(0) = 0
            """);
        e.edge("8 text anew: blanks all over", """
            text 0 abc
            text(0, 3) = 3
            put(0, 0, 1) = 1032
            put(0, 2, 1) = 1032
            count(9) = 1
            """);
        e.edge("8 text anew and shorter, then longer: nothing of an earlier one", """
            text(3, 60) = 60
            put(3, 59, 120) = 1032
            text(3, 1) = 1
            put(3, 1, 1) = BEYOND
            text(3, 60) = 60
            put(3, 59, 1) = 1032
            """);
        e.edge("8 text BAD: n above 60", "text(0, 61) = BAD", "text(0, HIGH) = BAD", "count(9) = 0");
        e.edge("8 text SIZE: n below 0", "text(0, -1) = SIZE", "text(0, LOW) = SIZE", "count(9) = 0");
        e.edge("8 text refused: the TEXT is as it was", """
            text 0 ab
            text(0, 61) = BAD
            text(0, -1) = SIZE
            put(0, 1, 1) = 1098
            """);
        e.edge("8 text: BAD ahead of SIZE", "text(4, -1) = BAD", "text(-1, -1) = BAD");
        e.range("", "text(_, 1)", 0, 3);
        StringBuilder made = new StringBuilder();
        StringBuilder seen = new StringBuilder();
        for (int t = 0; t < 4; t++) {
            made.append("text(" + t + ", 60) = 60\n");
            seen.append("put(" + t + ", 0, " + (10 + t) + ") = 1032\nput(" + t + ", 59, " + (20 + t) + ") = 1032\n");
        }
        for (int t = 0; t < 4; t++) {
            seen.append("put(" + t + ", 0, 1) = " + (1010 + t) + "\nput(" + t + ", 59, 1) = " + (1020 + t) + "\n");
        }
        e.edge("8 text: four TEXTS of 60, each by itself", made.toString(), "count(9) = 4", seen.toString());
    }

    private static void put(Edges e) {
        int[] laid = {127, 128, 255, 256, -128, -129, 1000, 0, -1};
        int[] kept = {127, -128, -1, 0, -128, 127, -24, 0, -1};
        for (int k = 0; k < laid.length; k++) {
            e.edge("9 put: " + laid[k] + ", cut to a byte", "text(1, 2) = 2", "put(1, 1, " + laid[k] + ") = 1032",
                    "put(1, 1, 0) = " + (1000 + kept[k]), "put(1, 0, 0) = 1032");
        }
        e.edge("9 put: the greatest and the least int, cut to a byte", """
            text(0, 1) = 1
            put(0, 0, HIGH) = 1032
            put(0, 0, LOW) = 999
            put(0, 0, 32) = 1000
            """);
        e.edge("9 put NOTHING: a missing TEXT", "put(0, 0, 32) = NOTHING");
        e.edge("9 put BEYOND: one below, one above", """
            text 0 ab
            put(0, -1, 32) = BEYOND
            put(0, 2, 32) = BEYOND
            put(0, LOW, 32) = BEYOND
            put(0, HIGH, 32) = BEYOND
            put(0, 0, 97) = 1097
            put(0, 1, 98) = 1098
            """);
        e.edge("9 put BEYOND: behind the longest TEXT", "text(3, 60) = 60", "put(3, 60, 1) = BEYOND");
        e.edge("9 put: BAD ahead of NOTHING, NOTHING ahead of BEYOND", """
            put(4, 0, 1) = BAD
            put(-1, -1, 1) = BAD
            put(0, -1, 1) = NOTHING
            put(0, 60, 1) = NOTHING
            """);
        e.range("text(0, 1) = 1\ntext(3, 1) = 1", "put(_, 0, 1)", 0, 3);
    }

    private static void blanks(Edges e) {
        e.edge("a YEAR: no blanks at all", fault("w409d999r888", "NONE"));
        e.edge("a YEAR: a blank ahead", fault(" w409d999", "NONE"));
        e.edge("a YEAR: a blank between the first two items", fault("w409 d999", "NONE"));
        e.edge("a YEAR: a blank between DEEDS", fault("w409d999 r888", "NONE"));
        e.edge("a YEAR: a blank behind", fault("w409d999 ", "NONE"));
        e.edge("a YEAR: 52 blanks ahead", fault(" ".repeat(52) + "w409d999", "NONE"));
        e.edge("a YEAR: 52 blanks between", fault("w409" + " ".repeat(52) + "d999", "NONE"));
        e.edge("a YEAR: 52 blanks behind", fault("w409d999" + " ".repeat(52), "NONE"));
        e.edge("a YEAR: 60 bytes, blanks all over",
                fault("    w409       d999      r888   s777        m666    h555    ", "NONE"));
        for (int i = 1; i <= 3; i++) {
            e.edge("a YEAR: no blank within the first item", fault(with("w409d999", i, " "), i));
        }
        for (int i = 5; i <= 7; i++) {
            e.edge("a YEAR: no blank within a DEED", fault(with("w409d999", i, " "), i));
            e.edge("a YEAR: no blank within a later DEED", fault(with("w409d999 r888", i + 5, " "), i + 5));
        }
        for (int other : new int[] {0, 9, 10, 13, 31, 33, 95, 160}) {
            String byItself = String.valueOf((char) other);
            e.edge("a YEAR: " + other + " is no blank", fault(byItself + "w409d999", 0),
                    fault("w409" + byItself + "d999", 4), fault("w409d999" + byItself, 8),
                    fault("w409d999 " + byItself, 9));
        }
    }

    private static void head(Edges e) {
        for (char other : new char[] {'v', 'x', 'W', 'd', '4', 0, (char) (119 + 128)}) {
            e.edge("a YEAR: " + (int) other + " is no w", fault(other + "409d999", 0),
                    fault("  " + other + "409d999", 2));
        }
        e.edge("a YEAR: DEEDS ahead of w", fault("d999w409", 0));
        e.edge("a YEAR: w a second time", fault("w409w409", 4), fault("w409d999w409", 8));
        e.edge("a YEAR: the least WILL", fault("w000d999", "NONE"), "year(0) = 1", "count(3) = 0");
        e.edge("a YEAR: the greatest WILL", fault("w400d999", "NONE"), "year(0) = 1", "count(3) = 40");
        e.edge("a YEAR: a WILL of 9, of 10, of 39", "year w090d999", "count(3) = 9", "year w100d999", "count(3) = 10",
                "year w390d999", "count(3) = 39");
        for (int will : new int[] {41, 49, 50, 99}) {
            e.edge("a YEAR: a WILL of " + will + ", the place of the first of both", fault("w" + will + "9d999", 1),
                    fault("   w" + will + "9d999", 4), fault("w" + will, 1), fault("w" + will + "x", 1));
        }
        e.edge("a YEAR: the least OFFS", "year w400d999", "count(4) = 0");
        e.edge("a YEAR: the greatest OFFS", "year w409d999", "count(4) = 9");
    }

    /** At each place where a figure is due, the least and the greatest one and the bytes beside these. */
    private static void figures(Edges e) {
        for (int i : new int[] {1, 2, 3, 5, 6, 7, 9, 10, 11}) {
            String year = "w000d999r888";
            e.edge("a YEAR: the least figure at " + i, fault(with(year, i, "0"), "NONE"));
            e.edge("a YEAR: the greatest figure at " + i, fault(with(year, i, i == 1 ? "4" : "9"), "NONE"));
            for (char none : new char[] {'/', ':', 'x', '-', (char) (48 + 128), (char) (57 + 128)}) {
                e.edge("a YEAR: " + (int) none + " at " + i + " is no figure", fault(with(year, i, "" + none), i));
            }
        }
        e.edge("a YEAR: a WILL of one figure", fault("w4d999", 2), fault("w9d999", 2));
        e.edge("a YEAR: a WILL of three figures", fault("w0409d999", 4));
        e.edge("a YEAR: a DEED of four figures", fault("w409d9999", 8));
        e.edge("a YEAR: a DEED of two figures", fault("w409d99r888", 7));
        e.edge("a YEAR: the least EFFORT, HABIT, PULL", "year w409d000", "deed(0, 1) = 1 : 0", "deed(0, 2) = 1 : 0",
                "deed(0, 3) = 1 : 0");
        e.edge("a YEAR: the greatest EFFORT, HABIT, PULL", "year w409d999", "deed(0, 1) = 1 : 9",
                "deed(0, 2) = 1 : 9", "deed(0, 3) = 1 : 9");
    }

    private static void deeds(Edges e) {
        for (int kind = 0; kind < 6; kind++) {
            char letter = DEEDS.charAt(kind);
            e.edge("a YEAR: KIND " + kind, "year w409" + letter + "123", "deed(0, 0) = 1 : " + kind);
            e.edge("a YEAR: a greater letter", fault("w409" + (char) (letter - 32) + "123", 4));
            for (char beside : new char[] {(char) (letter - 1), (char) (letter + 1)}) {
                if (DEEDS.indexOf(beside) < 0) {
                    e.edge("a YEAR: " + beside + " is no DEED", fault("w409" + beside + "123", 4));
                }
            }
        }
        e.edge("a YEAR: one DEED", fault("w409d999", "NONE"), "year(0) = 1");
        e.edge("a YEAR: five DEEDS", fault("w409d999r999s999m999h999", "NONE"), "year(0) = 5");
        e.edge("a YEAR: a sixth DEED, its place", fault("w409d999r999s999m999h999f999", 24));
        e.edge("a YEAR: a sixth DEED behind blanks, its place", fault("w409d999r999s999m999h999   f999", 27));
        e.edge("a YEAR: a sixth DEED that is cut, its place", fault("w409d999r999s999m999h999f", 24));
        e.edge("a YEAR: a sixth DEED that is none, its place", fault("w409d999r999s999m999h999x", 24),
                fault("w409d999r999s999m999h9999", 24));
        e.edge("a YEAR: DEEDS are 0, 1, .. as they come", "year w409 f123 d456", "deed(0, 0) = 1 : 5",
                "deed(0, 1) = 1 : 1", "deed(0, 2) = 1 : 2", "deed(0, 3) = 1 : 3", "deed(1, 0) = 1 : 0",
                "deed(1, 1) = 1 : 4", "deed(1, 2) = 1 : 5", "deed(1, 3) = 1 : 6");
    }

    private static void ends(Edges e) {
        String year = "w409d999r888s777m666h555";
        for (int n = 0; n < year.length(); n++) {
            boolean isYear = n >= 8 && n % 4 == 0;
            String cut = year.substring(0, n);
            e.edge("a YEAR: an end at " + n, isYear ? fault(cut, "NONE") : fault(cut, n));
        }
        e.edge("a YEAR: no DEED, blanks behind", fault("w409 ", 5), fault("w409" + " ".repeat(56), 60));
        e.edge("a YEAR: an end too early at the longest TEXT's size", fault(" ".repeat(59) + "w", 60),
                fault(" ".repeat(53) + "w409d99", 60));
        e.edge("a YEAR: blanks alone", fault(" ", 1), fault("  ", 2), fault(" ".repeat(60), 60));
        e.edge("a YEAR: the first of several faults", fault("x41xq", 0), fault("w4xxq", 2), fault("w50xq", 1),
                fault("w40xq", 3), fault("w400qx", 4), fault("w400dxxx", 5));
    }

    private static void fault(Edges e) {
        e.edge("10 fault NONE: there is none", "text 3 w000d000", "fault(3) = NONE");
        e.edge("10 fault: each TEXT by itself", "text 0 w000d000", "text 3 x", "fault(0) = NONE", "fault(3) = 0");
        e.edge("10 fault: nothing of a longer one before", "text 0 w000d000r000", "text 0 w000d0", "fault(0) = 6");
        e.edge("10 fault: nothing of blanks before", "text(0, 60) = 60", "text 0 w409", "fault(0) = 4",
                "text(0, 60) = 60", "text 0 w409d999", "fault(0) = NONE");
        e.edge("10 fault: nothing of a YEAR before", "text 0 w409d999", "text(0, 0) = 0", "fault(0) = 0",
                "text 1 '    w409d999'", "text(1, 4) = 4", "fault(1) = 4");
        e.edge("10 fault: nothing of another TEXT", "text(1, 60) = 60", "text(0, 60) = 60", "fault(0) = 60",
                "text 1 w409d999", "fault(0) = 60", "fault(1) = NONE");
        e.edge("10 fault: the longest TEXT, the last one", "text(3, 60) = 60", "fault(3) = 60",
                "put(3, 59, 119) = 1032", "fault(3) = 60");
        e.edge("10 fault NOTHING: a missing TEXT", "fault(0) = NOTHING");
        e.edge("10 fault: no YEAR is made or changed", "year w123d456", "text 1 w000r000", "fault(1) = NONE",
                "count(3) = 12", "deed(0, 0) = 1 : 0", "text 1 w0", "fault(1) = 2", "count(3) = 12");
        e.range("text 0 w000d000\ntext 3 w000d000", "fault(_)", 0, 3);
    }

    private static void year(Edges e) {
        e.edge("11 year: how many DEEDS, the fewest", "text 0 w000d000", "year(0) = 1", "count(0) = 1");
        e.edge("11 year: how many DEEDS, the most", "text 3 w000d000r000s000m000h000", "year(3) = 5", "count(0) = 5");
        e.edge("11 year NOTHING: a missing TEXT", "year(0) = NOTHING");
        e.edge("11 year STATE: a FAULT", "text 0 w000d00", "year(0) = STATE", "count(0) = 0");
        e.edge("11 year STATE: a TEXT without bytes", "text(0, 0) = 0", "year(0) = STATE");
        e.edge("11 year: STATE behind NOTHING, NOTHING behind BAD", "text 0 x", "year(1) = NOTHING", "year(4) = BAD",
                "year(-1) = BAD", "year(0) = STATE");
        e.edge("11 year: the TEXT may change or go behind it", "year w123d456", "put(0, 0, 120) = 1119",
                "text(0, 0) = 0", "count(3) = 12", "count(0) = 1", "undo(0) = 0", "count(3) = 12");
        e.range("text 0 w000d000\ntext 3 w000d000", "year(_)", 0, 3);
    }

    private static void yearAnew(Edges e) {
        String before = "year w409 d100 f300\nday(2, 0) = 1\nday(2, 1) = 1\ndrop(0) = 1\nwill(9) = 40\nkeep(0) = 4\n"
                + "keep(2) = 4\n";
        e.edge("11 year anew: DAY 1", before, "count(1) = 3", "year(0) = 2", "count(1) = 1");
        e.edge("11 year anew: CHAINS 0", before, "deed(1, 5) = 1 : 2", "year(0) = 2", "deed(1, 5) = 1 : 0");
        e.edge("11 year anew: nothing given up", before, "count(5) = 2", "year(0) = 2", "count(5) = 3",
                "deed(0, 6) = 1 : 0");
        e.edge("11 year anew: no ACTS", before, "count(2) = 4", "year(0) = 2", "count(2) = 0", "undo(1) = BAD",
                "undo(0) = 0");
        e.edge("11 year anew: kept YEARS go", before, "count(10) = 2", "year(0) = 2", "count(10) = 0",
                "on(0) = NOTHING", "on(1) = NOTHING", "on(2) = NOTHING");
        e.edge("11 year anew: never KEPT, HABIT, WILL, OFFS of the TEXT", before, "year(0) = 2", "deed(1, 7) = 1 : 0",
                "deed(1, 2) = 1 : 0", "count(3) = 40", "count(4) = 9");
        e.edge("11 year anew: DAYS to come were only asked about", before, "better(60) = 0 : 60", "year(0) = 2",
                "count(1) = 1", "count(5) = 3", "deed(1, 5) = 1 : 0", "deed(1, 7) = 1 : 0", "chain(0, 0, 0) = 0 : 0");
        e.edge("11 year anew: of fewer DEEDS", before, "year w000 d000", "count(0) = 1", "deed(1, 0) = BAD",
                "cost(2) = BAD", "count(5) = 1");
        e.edge("11 year anew: what was told stays", before, "odds(1, 3) = 1 : 3/4", "deed(1, 1) = 1 : 3",
                "year(0) = 2", "asked() = 3", "upper() = 3", "lower() = 4");
    }

    private static void yearRefused(Edges e) {
        e.edge("11 year refused: the YEAR, its ACTS and kept YEARS stay", """
            year w409 d100 f300
            day(2, 0) = 1
            keep(1) = 1
            text 1 w000d000r
            year(1) = STATE
            year(2) = NOTHING
            year(4) = BAD
            count(1) = 2
            count(2) = 1
            count(10) = 1
            undo(0) = 1
            on(1) = 1
            count(1) = 2
            """);
    }

    /** A TEXT and where its FAULT is, which year() takes or refuses accordingly. */
    private static String fault(String year, int place) {
        return fault(year, String.valueOf(place)) + "year(0) = STATE\n";
    }

    private static String fault(String year, String due) {
        StringBuilder lines = new StringBuilder("text(0, " + year.length() + ") = " + year.length() + "\n");
        for (int i = 0; i < year.length(); i++) {
            lines.append("put(0, " + i + ", " + (int) year.charAt(i) + ") = 1032\n");
        }
        return lines.append("fault(0) = " + due + "\n").toString();
    }

    private static String with(String year, int place, String instead) {
        return year.substring(0, place) + instead + year.substring(place + 1);
    }
}
