/** The boundary cases of promises 1 to 7: a new object, row, lay, at, tear, copy, mean. */
final class EdgesOfRowsTest {
    public static void main(String[] args) {
        Edges e = new Edges();
        aNewObject(e);
        row(e);
        rowsApart(e);
        lay(e);
        at(e);
        tear(e);
        copy(e);
        copyRefused(e);
        copyInThisOrder(e);
        mean(e);
        e.end("EdgesOfRowsTest");
    }

    private static void aNewObject(Edges e) {
        e.edge("1 a new object: no ROWS", """
            count(8) = 0
            tear(0) = NOTHING
            tear(1) = NOTHING
            tear(2) = NOTHING
            tear(3) = NOTHING
            tear(4) = NOTHING
            tear(5) = NOTHING
            """);
        e.edge("1 no TEXTS", """
            count(9) = 0
            fault(0) = NOTHING
            fault(1) = NOTHING
            fault(2) = NOTHING
            fault(3) = NOTHING
            """);
        e.edge("1 no DEEDS", """
            count(0) = 0
            count(5) = 0
            count(6) = 0
            count(7) = 0
            deed(0, 0) = BAD
            most() = STATE
            """);
        e.edge("1 nothing done, nothing kept", """
            count(1) = 1
            count(2) = 0
            count(3) = 0
            count(4) = 0
            count(10) = 0
            on(0) = NOTHING
            on(1) = NOTHING
            on(2) = NOTHING
            """);
    }

    private static void row(Edges e) {
        e.edge("2 row: n ints 0, the greatest n", """
            row(0, 40) = 40
            at(0, 0) = 1 : 0
            at(0, 39) = 1 : 0
            at(0, 40) = BEYOND
            """);
        e.edge("2 row: the least n, a ROW without places is there", """
            row(0, 0) = 0
            count(8) = 1
            at(0, 0) = BEYOND
            """);
        e.edge("2 row: one place", """
            row(0, 1) = 1
            at(0, 0) = 1 : 0
            at(0, 1) = BEYOND
            """);
        e.edge("2 row anew: 0 all over", """
            row 0 7 8 9
            row(0, 3) = 3
            at(0, 0) = 1 : 0
            at(0, 2) = 1 : 0
            count(8) = 1
            """);
        e.edge("2 row anew and shorter: no places beyond", """
            row 0 7 8 9
            row(0, 2) = 2
            at(0, 2) = BEYOND
            """);
        e.edge("2 row anew and longer: nothing of an earlier one", """
            row(0, 40) = 40
            lay(0, 39, 5) = 1
            row(0, 1) = 1
            row(0, 40) = 40
            at(0, 39) = 1 : 0
            """);
        e.edge("2 row BAD: n above 40", """
            row(0, 41) = BAD
            row(0, HIGH) = BAD
            count(8) = 0
            """);
        e.edge("2 row SIZE: n below 0", """
            row(0, -1) = SIZE
            row(0, LOW) = SIZE
            count(8) = 0
            """);
        e.edge("2 row refused: the ROW is as it was", """
            row 0 7 8
            row(0, 41) = BAD
            row(0, -1) = SIZE
            at(0, 1) = 1 : 8
            """);
        e.edge("2 row: BAD ahead of SIZE", """
            row(6, -1) = BAD
            row(-1, -1) = BAD
            """);
        e.range("", "row(_, 1)", 0, 5);
    }

    /** Every ROW is full, so that a place of one can't lie within another one. */
    private static void rowsApart(Edges e) {
        StringBuilder made = new StringBuilder();
        StringBuilder seen = new StringBuilder();
        for (int r = 0; r < 6; r++) {
            made.append("row(" + r + ", 40) = 40\n");
        }
        for (int r = 0; r < 6; r++) {
            made.append("lay(" + r + ", 0, " + (10 + r) + ") = 1 : 0\n");
            made.append("lay(" + r + ", 39, " + (20 + r) + ") = 1 : 0\n");
            seen.append("at(" + r + ", 0) = 1 : " + (10 + r) + "\n");
            seen.append("at(" + r + ", 39) = 1 : " + (20 + r) + "\n");
        }
        e.edge("2 row: six ROWS of 40", made.toString(), "count(8) = 6", seen.toString());
        e.edge("2 row: six ROWS of 40, one of them anew", made.toString(), "row(2, 40) = 40",
                "at(1, 39) = 1 : 21", "at(2, 0) = 1 : 0", "at(2, 39) = 1 : 0", "at(3, 0) = 1 : 13");
    }

    private static void lay(Edges e) {
        e.edge("3 lay: what it was, any int", """
            row(0, 1) = 1
            lay(0, 0, LOW) = 1 : 0
            lay(0, 0, HIGH) = 1 : LOW
            lay(0, 0, -1) = 1 : HIGH
            at(0, 0) = 1 : -1
            """);
        e.edge("3 lay: the first and the last place", """
            row(5, 40) = 40
            lay(5, 0, 3) = 1 : 0
            lay(5, 39, 4) = 1 : 0
            at(5, 0) = 1 : 3
            at(5, 39) = 1 : 4
            at(5, 1) = 1 : 0
            at(5, 38) = 1 : 0
            """);
        e.edge("3 lay NOTHING: a missing ROW", """
            lay(0, 0, 1) = NOTHING
            row(1, 1) = 1
            lay(0, 0, 1) = NOTHING
            """);
        e.edge("3 lay BEYOND: one below, one above", """
            row 0 7 8
            lay(0, -1, 1) = BEYOND
            lay(0, 2, 1) = BEYOND
            lay(0, LOW, 1) = BEYOND
            lay(0, HIGH, 1) = BEYOND
            at(0, 0) = 1 : 7
            at(0, 1) = 1 : 8
            """);
        e.edge("3 lay BEYOND: a ROW without places", "row(0, 0) = 0", "lay(0, 0, 1) = BEYOND");
        e.edge("3 lay BEYOND: behind the longest ROW", "row(5, 40) = 40", "lay(5, 40, 1) = BEYOND");
        e.edge("3 lay: BAD ahead of NOTHING, NOTHING ahead of BEYOND", """
            lay(6, 0, 1) = BAD
            lay(6, -1, 1) = BAD
            lay(0, -1, 1) = NOTHING
            """);
        e.range(all("row(R, 1) = 1"), "lay(_, 0, 1)", 0, 5);
    }

    private static void at(Edges e) {
        e.edge("4 at: the first and the last place", """
            row 0 7 8 9
            at(0, 0) = 1 : 7
            at(0, 2) = 1 : 9
            """);
        e.edge("4 at NOTHING: a missing ROW", "at(0, 0) = NOTHING");
        e.edge("4 at BEYOND: one below, one above", """
            row 0 7 8
            at(0, -1) = BEYOND
            at(0, 2) = BEYOND
            at(0, LOW) = BEYOND
            at(0, HIGH) = BEYOND
            """);
        e.edge("4 at BEYOND: a ROW without places", "row(0, 0) = 0", "at(0, 0) = BEYOND");
        e.edge("4 at: BAD ahead of NOTHING, NOTHING ahead of BEYOND", """
            at(6, 0) = BAD
            at(-1, -1) = BAD
            at(0, -1) = NOTHING
            at(0, 40) = NOTHING
            """);
        e.range(all("row(R, 1) = 1"), "at(_, 0)", 0, 5);
    }

    private static void tear(Edges e) {
        e.edge("5 tear: the ROW is missing", """
            row 0 7
            row 1 8
            tear(0) = 1
            count(8) = 1
            at(0, 0) = NOTHING
            lay(0, 0, 1) = NOTHING
            mean(0) = NOTHING
            copy(0, 0, 1, 0, 0) = NOTHING
            copy(1, 0, 0, 0, 0) = NOTHING
            at(1, 0) = 1 : 8
            """);
        e.edge("5 tear: a ROW without places", "row(0, 0) = 0", "tear(0) = 1", "count(8) = 0");
        e.edge("5 tear NOTHING: never there, and torn", """
            tear(0) = NOTHING
            row(0, 1) = 1
            tear(0) = 1
            tear(0) = NOTHING
            """);
        e.edge("5 tear: made again it is of 0", """
            row 0 7 8
            tear(0) = 1
            row(0, 2) = 2
            at(0, 0) = 1 : 0
            at(0, 1) = 1 : 0
            """);
        e.range(all("row(R, 1) = 1"), "tear(_)", 0, 5);
    }

    private static void copy(Edges e) {
        e.edge("6 copy: to another ROW, the places beside stay", """
            row 0 1 2 3 4
            row 1 9 9 9 9
            copy(0, 1, 1, 1, 2) = 1
            """, row(1, 9, 2, 3, 9), row(0, 1, 2, 3, 4));
        e.edge("6 copy: to itself, forwards, as if taken ahead", "row 0 1 2 3 4 5", "copy(0, 0, 0, 1, 4) = 1",
                row(0, 1, 1, 2, 3, 4));
        e.edge("6 copy: to itself, backwards, as if taken ahead", "row 0 1 2 3 4 5", "copy(0, 1, 0, 0, 4) = 1",
                row(0, 2, 3, 4, 5, 5));
        e.edge("6 copy: to itself, each place to itself", "row 0 1 2 3", "copy(0, 0, 0, 0, 3) = 1", row(0, 1, 2, 3));
        e.edge("6 copy: all places of the longest ROWS", """
            row(0, 40) = 40
            row(5, 40) = 40
            lay(0, 0, 6) = 1
            lay(0, 39, 7) = 1
            copy(0, 0, 5, 0, 40) = 1
            at(5, 0) = 1 : 6
            at(5, 39) = 1 : 7
            """);
        e.edge("6 copy: n 0 leaves all as it was", "row 0 1 2", "row 1 8 9", "copy(0, 0, 1, 0, 0) = 1",
                row(0, 1, 2), row(1, 8, 9));
        e.edge("6 copy: n 0 at both ends", "row 0 1 2", "row 1 8 9 9", "copy(0, 2, 1, 3, 0) = 1",
                row(1, 8, 9, 9));
        e.edge("6 copy: n 0 between ROWS without places", "row(0, 0) = 0", "row(1, 0) = 0",
                "copy(0, 0, 1, 0, 0) = 1");
        e.edge("6 copy: one place, from the last to the last", "row 0 1 2", "row 1 8 9", "copy(0, 1, 1, 1, 1) = 1",
                row(1, 8, 2));
    }

    private static void copyRefused(Edges e) {
        String two = "row 0 1 2\nrow 1 8 9 7\n";
        String asTheyWere = row(0, 1, 2) + row(1, 8, 9, 7);
        e.edge("6 copy SIZE: n below 0", two, "copy(0, 0, 1, 0, -1) = SIZE", "copy(0, 0, 1, 0, LOW) = SIZE",
                "copy(0, 1, 0, 0, -1) = SIZE", asTheyWere);
        e.edge("6 copy NOTHING: the one", "row 1 8", "copy(0, 0, 1, 0, 1) = NOTHING", "copy(0, 0, 1, 0, 0) = NOTHING");
        e.edge("6 copy NOTHING: the other one", "row 0 8", "copy(0, 0, 1, 0, 1) = NOTHING",
                "copy(0, 0, 1, 0, 0) = NOTHING");
        e.edge("6 copy NOTHING: both", "copy(0, 0, 1, 0, 0) = NOTHING", "copy(0, 0, 0, 0, 0) = NOTHING");
        e.edge("6 copy BEYOND: one more than there are, of the one", two, "copy(0, 0, 1, 0, 3) = BEYOND",
                "copy(0, 1, 1, 0, 2) = BEYOND", "copy(0, 2, 1, 0, 1) = BEYOND", asTheyWere);
        e.edge("6 copy BEYOND: one more than there are, of the other one", two, "copy(1, 0, 0, 0, 3) = BEYOND",
                "copy(1, 0, 0, 1, 2) = BEYOND", "copy(1, 0, 0, 2, 1) = BEYOND", asTheyWere);
        e.edge("6 copy BEYOND: to itself", two, "copy(1, 0, 1, 1, 3) = BEYOND", "copy(1, 1, 1, 0, 3) = BEYOND",
                asTheyWere);
        e.edge("6 copy BEYOND: n 0, i below 0", two, "copy(0, -1, 1, 0, 0) = BEYOND", "copy(0, LOW, 1, 0, 0) = BEYOND");
        e.edge("6 copy BEYOND: n 0, i above its size", two, "copy(0, 3, 1, 0, 0) = BEYOND",
                "copy(0, HIGH, 1, 0, 0) = BEYOND");
        e.edge("6 copy BEYOND: n 0, j below 0", two, "copy(0, 0, 1, -1, 0) = BEYOND", "copy(0, 0, 1, LOW, 0) = BEYOND");
        e.edge("6 copy BEYOND: n 0, j above its size", two, "copy(0, 0, 1, 4, 0) = BEYOND",
                "copy(0, 0, 1, HIGH, 0) = BEYOND");
        e.edge("6 copy BEYOND: i below 0, which n would make up for", two, "copy(0, -1, 1, 0, 1) = BEYOND",
                "copy(0, 0, 1, -1, 1) = BEYOND");
        e.edge("6 copy BEYOND: sums beyond the greatest int", two, "copy(0, 1, 1, 1, HIGH) = BEYOND",
                "copy(0, HIGH, 1, 0, HIGH) = BEYOND", "copy(0, HIGH, 1, HIGH, 2) = BEYOND",
                "copy(0, 0, 1, HIGH, 1) = BEYOND", asTheyWere);
        e.range(all("row(R, 1) = 1"), "copy(_, 0, 2, 0, 1)", 0, 5);
        e.range(all("row(R, 1) = 1"), "copy(2, 0, _, 0, 1)", 0, 5);
    }

    private static void copyInThisOrder(Edges e) {
        e.edge("6 copy: BAD ahead of SIZE, NOTHING, BEYOND", """
            copy(6, 0, 0, 0, -1) = BAD
            copy(0, 0, -1, 0, -1) = BAD
            copy(6, 0, 0, 0, 0) = BAD
            row 0 1
            copy(0, 5, 6, 5, 5) = BAD
            """);
        e.edge("6 copy: SIZE ahead of NOTHING, BEYOND", """
            copy(0, 0, 1, 0, -1) = SIZE
            row 0 1
            copy(0, 5, 0, 5, -1) = SIZE
            """);
        e.edge("6 copy: NOTHING ahead of BEYOND", """
            row 0 1
            copy(0, 5, 1, 0, 0) = NOTHING
            copy(1, 0, 0, 5, 9) = NOTHING
            """);
    }

    private static void mean(Edges e) {
        e.edge("7 mean: of one", "row 0 -6", "mean(0) = 1 : -6");
        e.edge("7 mean, cut: 5 by 3", "row 0 1 2 2", "mean(0) = 1 : 1");
        e.edge("7 mean, cut: 6 by 3", "row 0 1 2 3", "mean(0) = 1 : 2");
        e.edge("7 mean, cut: 1 by 2", "row 0 0 1", "mean(0) = 1 : 0");
        e.edge("7 mean, cut: -1 by 2", "row 0 0 -1", "mean(0) = 1 : 0");
        e.edge("7 mean, cut: -5 by 3", "row 0 -1 -2 -2", "mean(0) = 1 : -1");
        e.edge("7 mean: the greatest ints, whose sum is none", "row 0 HIGH HIGH HIGH", "mean(0) = 1 : HIGH");
        e.edge("7 mean: the least ints, whose sum is none", "row 0 LOW LOW LOW", "mean(0) = 1 : LOW");
        e.edge("7 mean: the greatest and the least: -1 by 2", "row 0 HIGH LOW", "mean(0) = 1 : 0");
        e.edge("7 mean: of 40", "row(0, 40) = 40", "lay(0, 0, 41) = 1", "lay(0, 39, 78) = 1", "mean(0) = 1 : 2",
                "lay(0, 39, 79) = 1", "mean(0) = 1 : 3");
        e.edge("7 mean: nothing of an earlier ROW's places", "row 0 1 1 99", "row(0, 2) = 2", "lay(0, 0, 4) = 1",
                "mean(0) = 1 : 2");
        e.edge("7 mean: nothing of another ROW", "row(0, 40) = 40", "row 1 4000", "mean(0) = 1 : 0",
                "mean(1) = 1 : 4000");
        e.edge("7 mean NOTHING: a missing ROW", "mean(0) = NOTHING");
        e.edge("7 mean NOUGHT: a ROW without places", "row(0, 0) = 0", "mean(0) = NOUGHT");
        e.range(all("row(R, 1) = 1"), "mean(_)", 0, 5);
    }

    private static String all(String line) {
        StringBuilder lines = new StringBuilder();
        for (int r = 0; r < 6; r++) {
            lines.append(line.replace("R", String.valueOf(r))).append('\n');
        }
        return lines.toString();
    }

    /** Calls that look at each place of a ROW, and at its end. */
    private static String row(int r, int... places) {
        StringBuilder lines = new StringBuilder();
        for (int i = 0; i < places.length; i++) {
            lines.append("at(" + r + ", " + i + ") = 1 : " + places[i] + "\n");
        }
        return lines.append("at(" + r + ", " + places.length + ") = BEYOND\n").toString();
    }
}
