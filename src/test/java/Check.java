/** What the project's tests share: telling a wrong answer, and making objects of NinthDay. */
final class Check {
    private int wrong;
    private int asked;

    void due(String call, long got, long want) {
        asked++;
        if (got != want) {
            wrong++;
            System.out.println(call + " answered " + got + ", due is " + want);
        }
    }

    void due(String call, boolean holds) {
        due(call, holds ? 1 : 0, 1);
    }

    /** A call that was refused by a finding. */
    void found(String call, NinthDay x, int got, int finding) {
        due(call, got, NinthDay.FINDING);
        due(call + ", finding()", x.finding(), finding);
    }

    /** A call that tells by asked(). */
    void told(String call, NinthDay x, int got, int want, int asked) {
        due(call, got, want);
        due(call + ", asked()", x.asked(), asked);
    }

    /** A call that tells by upper(), lower(). */
    void shared(String call, NinthDay x, int got, long upper, long lower) {
        due(call, got, 1);
        due(call + ", upper()", x.upper(), upper);
        due(call + ", lower()", x.lower(), lower);
    }

    /** Ends the test, with exit code 1 if an answer was wrong. */
    void end(String name) {
        System.out.println(name + ": " + asked + " answers, " + wrong + " wrong");
        if (wrong != 0) {
            System.exit(1);
        }
    }

    static void write(NinthDay x, int t, String text) {
        x.text(t, text.length());
        for (int i = 0; i < text.length(); i++) {
            x.put(t, i, text.charAt(i));
        }
    }

    static NinthDay of(String year) {
        NinthDay x = new NinthDay();
        write(x, 0, year);
        x.year(0);
        return x;
    }

    static void fill(NinthDay x, int r, int... places) {
        x.row(r, places.length);
        for (int i = 0; i < places.length; i++) {
            x.lay(r, i, places[i]);
        }
    }

    /** Place i of a row, without changing what asked() tells but to that place. */
    static int read(NinthDay x, int r, int i) {
        x.at(r, i);
        return x.asked();
    }

    static int trait(NinthDay x, int i, int what) {
        x.deed(i, what);
        return x.asked();
    }
}
