import java.util.ArrayList;
import java.util.Comparator;
import java.util.List;

/**
 * The document once more, written from its words alone and without care for time or room, so that
 * RandomTest can hold NinthDay against it: kinds are classes, acts leave whole years behind, and
 * all that is asked of days to come, sets and turns is tried out.
 */
final class Slow {
    static final int BAD = -1, FULL = -2, FINDING = -3, STATE = -4, SPENT = -6, NONE = -9;
    private static final String LETTERS = "drsmhf";

    static class Deed implements Cloneable {
        int kind, effort, habit, pull, chain, kept;
        boolean given;

        int costs(int day) {
            return Math.max(0, effort - habit);
        }

        int gain() {
            return 1;
        }

        int loss() {
            return 1;
        }

        final void isKept() {
            habit = Math.min(9, habit + gain());
            chain++;
            kept++;
        }

        final void slips() {
            habit = Math.max(0, habit - loss());
            chain = 0;
        }

        final Deed twin() {
            try {
                return (Deed) clone();
            } catch (CloneNotSupportedException e) {
                throw new IllegalStateException(e);
            }
        }

        final Deed as(int other) {
            Deed d = made(other, effort, habit, pull);
            d.chain = chain;
            d.kept = kept;
            d.given = given;
            return d;
        }

        static Deed made(int kind, int effort, int habit, int pull) {
            Deed d = switch (kind) {
                case 1 -> new Run();
                case 2 -> new Sugar();
                case 3 -> new Small();
                case 4 -> new Shoes();
                case 5 -> new French();
                default -> new Deed();
            };
            d.kind = kind;
            d.effort = effort;
            d.habit = habit;
            d.pull = pull;
            return d;
        }
    }

    static class Run extends Deed {
        @Override int costs(int day) {
            return super.costs(day) + (day % 3 == 0 ? 2 : 0);
        }
    }

    static final class Shoes extends Run {
        @Override int costs(int day) {
            return Math.max(0, super.costs(day) - 1);
        }
    }

    static final class Sugar extends Deed {
        @Override int costs(int day) {
            return super.costs(day) + (day % 7 == 6 ? pull : 0);
        }

        @Override int loss() {
            return 2;
        }
    }

    static class Small extends Deed {
        @Override int costs(int day) {
            return super.costs(day) / 2;
        }

        @Override int gain() {
            return 2;
        }
    }

    static final class French extends Small {
        @Override int costs(int day) {
            return super.costs(day) + (chain == 0 ? 1 : 0);
        }
    }

    static final class Year {
        List<Deed> deeds = new ArrayList<>();
        int day = 1, will, offs;
        /** The years ahead of each act. */
        List<Year> past = new ArrayList<>();

        Year twin() {
            Year y = new Year();
            for (Deed d : deeds) {
                y.deeds.add(d.twin());
            }
            y.day = day;
            y.will = will;
            y.offs = offs;
            y.past = new ArrayList<>(past);
            return y;
        }

        int cost(int set) {
            int sum = 0;
            for (int i = 0; i < deeds.size(); i++) {
                sum += (set & 1 << i) != 0 ? deeds.get(i).costs(day) : 0;
            }
            return sum;
        }

        int open() {
            int set = 0;
            for (int i = 0; i < deeds.size(); i++) {
                set |= deeds.get(i).given ? 0 : 1 << i;
            }
            return set;
        }

        void pass(int set, int off) {
            for (int i = 0; i < deeds.size(); i++) {
                Deed d = deeds.get(i);
                if (d.given) {
                    continue;
                }
                if ((set & 1 << i) != 0) {
                    d.isKept();
                } else if ((off & 1 << i) != 0) {
                    offs--;
                } else {
                    d.slips();
                }
            }
            day++;
        }

        int rule(int rule) {
            List<Integer> order = new ArrayList<>();
            for (int i = 0; i < deeds.size(); i++) {
                if (!deeds.get(i).given) {
                    order.add(i);
                }
            }
            // A stable sort: of like ones by numbers.
            order.sort(switch (rule) {
                case 0 -> Comparator.comparingInt(i -> deeds.get(i).costs(day));
                case 2 -> Comparator.comparingInt(i -> -deeds.get(i).chain);
                case 3 -> Comparator.comparingInt(i -> deeds.get(i).habit);
                default -> Comparator.naturalOrder();
            });
            int set = 0;
            for (int i : order) {
                if (cost(set | 1 << i) <= will) {
                    set |= 1 << i;
                }
            }
            return set;
        }

        boolean byItself() {
            return deeds.stream().allMatch(d -> d.given || d.habit >= d.effort);
        }

        List<Integer> setsThatCost(int v) {
            List<Integer> sets = new ArrayList<>();
            for (int set = 0; set < 1 << deeds.size(); set++) {
                if ((set & open()) == set && cost(set) == v) {
                    sets.add(set);
                }
            }
            return sets;
        }
    }

    private final int[][] rows = new int[6][];
    private final byte[][] texts = new byte[4][];
    private final Year[] kept = new Year[3];
    private final int[] found = new int[6];
    private Year year = new Year();
    private int asked, finding;
    private long upper, lower = 1;
    private List<Integer> bestPlan;

    private int find(int f) {
        finding = f;
        found[f]++;
        return FINDING;
    }

    private int tell(int v, int answer) {
        asked = v;
        return answer;
    }

    private static boolean within(int v, int low, int high) {
        return low <= v && v <= high;
    }

    private int deeds() {
        return year.deeds.size();
    }

    private boolean isDeed(int i) {
        return within(i, 0, deeds() - 1);
    }

    private boolean isSet(int set) {
        return within(set, 0, (1 << deeds()) - 1);
    }

    int row(int r, int n) {
        if (!within(r, 0, 5) || n > 40) {
            return BAD;
        }
        if (n < 0) {
            return find(5);
        }
        rows[r] = new int[n];
        return n;
    }

    int lay(int r, int i, int v) {
        int answer = at(r, i);
        if (answer == 1) {
            rows[r][i] = v;
        }
        return answer;
    }

    int at(int r, int i) {
        if (!within(r, 0, 5)) {
            return BAD;
        }
        if (rows[r] == null) {
            return find(1);
        }
        return within(i, 0, rows[r].length - 1) ? tell(rows[r][i], 1) : find(2);
    }

    int tear(int r) {
        if (!within(r, 0, 5)) {
            return BAD;
        }
        if (rows[r] == null) {
            return find(1);
        }
        rows[r] = null;
        return 1;
    }

    int copy(int r, int i, int to, int j, int n) {
        if (!within(r, 0, 5) || !within(to, 0, 5)) {
            return BAD;
        }
        if (n < 0) {
            return find(5);
        }
        if (rows[r] == null || rows[to] == null) {
            return find(1);
        }
        if (i < 0 || j < 0 || (long) i + n > rows[r].length || (long) j + n > rows[to].length) {
            return find(2);
        }
        int[] taken = rows[r].clone();
        for (int k = 0; k < n; k++) {
            rows[to][j + k] = taken[i + k];
        }
        return 1;
    }

    int mean(int r) {
        if (!within(r, 0, 5)) {
            return BAD;
        }
        if (rows[r] == null) {
            return find(1);
        }
        if (rows[r].length == 0) {
            return find(4);
        }
        long sum = 0;
        for (int v : rows[r]) {
            sum += v;
        }
        return tell((int) (sum / rows[r].length), 1);
    }

    int text(int t, int n) {
        if (!within(t, 0, 3) || n > 60) {
            return BAD;
        }
        if (n < 0) {
            return find(5);
        }
        texts[t] = " ".repeat(n).getBytes(java.nio.charset.StandardCharsets.ISO_8859_1);
        return n;
    }

    int put(int t, int i, int v) {
        if (!within(t, 0, 3)) {
            return BAD;
        }
        if (texts[t] == null) {
            return find(1);
        }
        if (!within(i, 0, texts[t].length - 1)) {
            return find(2);
        }
        int was = texts[t][i];
        texts[t][i] = (byte) v;
        return was + 1000;
    }

    /** The fault of a text, told by how far a pattern goes. */
    private static int faultOf(String s) {
        int at = 0;
        int deeds = 0;
        boolean head = true;
        while (true) {
            while (at < s.length() && s.charAt(at) == ' ') {
                at++;
            }
            if (at == s.length()) {
                return deeds > 0 ? NONE : at;
            }
            if (head ? s.charAt(at) != 'w' : LETTERS.indexOf(s.charAt(at)) < 0 || deeds == 5) {
                return at;
            }
            for (int k = 1; k <= 3; k++) {
                if (at + k == s.length() || "0123456789".indexOf(s.charAt(at + k)) < 0) {
                    return at + k;
                }
                if (head && k == 2 && Integer.parseInt(s.substring(at + 1, at + 3)) > 40) {
                    return at + 1;
                }
            }
            at += 4;
            deeds += head ? 0 : 1;
            head = false;
        }
    }

    private String textOf(int t) {
        return new String(texts[t], java.nio.charset.StandardCharsets.ISO_8859_1);
    }

    int fault(int t) {
        if (!within(t, 0, 3)) {
            return BAD;
        }
        return texts[t] == null ? find(1) : faultOf(textOf(t));
    }

    int year(int t) {
        if (!within(t, 0, 3)) {
            return BAD;
        }
        if (texts[t] == null) {
            return find(1);
        }
        if (faultOf(textOf(t)) != NONE) {
            return STATE;
        }
        String s = textOf(t).replace(" ", "");
        year = new Year();
        year.will = Integer.parseInt(s.substring(1, 3));
        year.offs = s.charAt(3) - '0';
        for (int k = 4; k < s.length(); k += 4) {
            year.deeds.add(Deed.made(LETTERS.indexOf(s.charAt(k)),
                    s.charAt(k + 1) - '0', s.charAt(k + 2) - '0', s.charAt(k + 3) - '0'));
        }
        kept[0] = null;
        kept[1] = null;
        kept[2] = null;
        return deeds();
    }

    private int trait(int i, int what) {
        Deed d = year.deeds.get(i);
        return new int[] {d.kind, d.effort, d.habit, d.pull, d.costs(year.day), d.chain,
            d.given ? 1 : 0, d.kept}[what];
    }

    int deed(int i, int what) {
        return isDeed(i) && within(what, 0, 7) ? tell(trait(i, what), 1) : BAD;
    }

    int mark(int i, int kind) {
        if (!isDeed(i) || !within(kind, 1, 5)) {
            return BAD;
        }
        Deed d = year.deeds.get(i);
        int cost = d.costs(year.day);
        if (kind == 1 && d instanceof Run) {
            int days = 0;
            while ((year.day + days) % 3 != 0) {
                days++;
            }
            return days;
        }
        if (kind == 2 && d instanceof Sugar) {
            Deed without = d.twin();
            without.pull = 0;
            return cost - without.costs(year.day);
        }
        if (kind == 3 && d instanceof Small) {
            return Math.max(0, d.as(0).costs(year.day) - cost);
        }
        if (kind == 4 && d instanceof Shoes) {
            return d.as(1).costs(year.day) - cost;
        }
        if (kind == 5 && d instanceof French) {
            return d.chain == 0 ? 1 : 0;
        }
        return find(3);
    }

    private void actAhead() {
        Year before = year.twin();
        year.past.add(before);
    }

    int day(int set, int off) {
        if (!isSet(set) || !isSet(off) || (set & off) != 0 || ((set | off) & year.open()) != (set | off)) {
            return BAD;
        }
        if (deeds() == 0) {
            return STATE;
        }
        if (year.cost(set) > year.will || Integer.bitCount(off) > year.offs) {
            return SPENT;
        }
        if (year.past.size() == 40) {
            return FULL;
        }
        actAhead();
        year.pass(set, off);
        return Integer.bitCount(set);
    }

    int drop(int i) {
        if (!isDeed(i)) {
            return BAD;
        }
        if (year.deeds.get(i).given) {
            return STATE;
        }
        if (year.past.size() == 40) {
            return FULL;
        }
        actAhead();
        year.deeds.get(i).given = true;
        return Integer.bitCount(year.open());
    }

    int take(int i) {
        if (!isDeed(i)) {
            return BAD;
        }
        if (!year.deeds.get(i).given) {
            return STATE;
        }
        if (year.past.size() == 40) {
            return FULL;
        }
        actAhead();
        year.deeds.get(i).given = false;
        year.deeds.get(i).chain = 0;
        return Integer.bitCount(year.open());
    }

    int will(int v) {
        if (!within(v, 0, 40)) {
            return BAD;
        }
        if (deeds() == 0 || year.will == v) {
            return STATE;
        }
        if (year.past.size() == 40) {
            return FULL;
        }
        actAhead();
        int was = year.will;
        year.will = v;
        return was;
    }

    int undo(int n) {
        int acts = year.past.size();
        if (!within(n, 0, acts)) {
            return BAD;
        }
        if (n < acts) {
            year = year.past.get(n).twin();
        }
        return acts - n;
    }

    int keep(int k) {
        if (!within(k, 0, 2)) {
            return BAD;
        }
        if (deeds() == 0) {
            return STATE;
        }
        kept[k] = year.twin();
        return year.past.size();
    }

    int on(int k) {
        if (!within(k, 0, 2)) {
            return BAD;
        }
        if (kept[k] == null) {
            return find(1);
        }
        year = kept[k].twin();
        return year.past.size();
    }

    int cost(int set) {
        return isSet(set) ? year.cost(set) : BAD;
    }

    int most() {
        if (deeds() == 0) {
            return STATE;
        }
        for (int n = deeds(); n >= 0; n--) {
            for (int cost = 0; cost <= year.will; cost++) {
                for (int set : year.setsThatCost(cost)) {
                    if (Integer.bitCount(set) == n) {
                        return tell(set, n);
                    }
                }
            }
        }
        return BAD;
    }

    int rule(int rule) {
        if (!within(rule, 0, 3)) {
            return BAD;
        }
        if (deeds() == 0) {
            return STATE;
        }
        int set = year.rule(rule);
        return tell(year.cost(set), set);
    }

    int plan(int n, int r) {
        if (!within(n, 0, 3) || !within(r, 0, 5)) {
            return BAD;
        }
        if (deeds() == 0) {
            return STATE;
        }
        bestPlan = null;
        planFrom(year, new ArrayList<>(), n);
        rows[r] = bestPlan.stream().mapToInt(Integer::intValue).toArray();
        return sizeOf(bestPlan);
    }

    private static int sizeOf(List<Integer> sets) {
        return sets.stream().mapToInt(Integer::bitCount).sum();
    }

    private void planFrom(Year from, List<Integer> sets, int n) {
        if (sets.size() == n) {
            if (bestPlan == null || sizeOf(sets) > sizeOf(bestPlan)) {
                bestPlan = new ArrayList<>(sets);
            }
            return;
        }
        for (int set = 0; set < 1 << deeds(); set++) {
            if ((set & from.open()) == set && from.cost(set) <= from.will) {
                Year next = new Year();
                for (Deed d : from.deeds) {
                    next.deeds.add(d.twin());
                }
                next.day = from.day;
                next.will = from.will;
                next.pass(set, 0);
                sets.add(set);
                planFrom(next, sets, n);
                sets.remove(sets.size() - 1);
            }
        }
    }

    int till(int rule) {
        if (!within(rule, 0, 3)) {
            return BAD;
        }
        if (deeds() == 0) {
            return STATE;
        }
        Year y = year.twin();
        int sum = 0;
        for (int days = 0; days <= 60; days++) {
            if (y.byItself()) {
                return tell(sum, days);
            }
            int set = y.rule(rule);
            y.pass(set, 0);
            sum += Integer.bitCount(set);
        }
        return NONE;
    }

    int better(int n) {
        if (!within(n, 0, 60)) {
            return BAD;
        }
        if (deeds() == 0) {
            return STATE;
        }
        int[] sums = new int[4];
        for (int rule = 0; rule < 4; rule++) {
            Year y = year.twin();
            for (int k = 0; k < n; k++) {
                int set = y.rule(rule);
                y.pass(set, 0);
                sums[rule] += Integer.bitCount(set);
            }
        }
        int best = 0;
        for (int rule = 1; rule < 4; rule++) {
            best = sums[rule] > sums[best] ? rule : best;
        }
        return tell(sums[best], best);
    }

    int least(int i, int n) {
        if (!isDeed(i) || !within(n, 0, 30)) {
            return BAD;
        }
        for (int will = 0; ; will++) {
            Deed d = year.deeds.get(i).twin();
            int days = 0;
            while (days < n && d.costs(year.day + days) <= will) {
                d.isKept();
                days++;
            }
            if (days == n) {
                return will;
            }
        }
    }

    int chain(int i, int n, int rule) {
        if (!isDeed(i) || !within(n, 0, 60) || !within(rule, 0, 3)) {
            return BAD;
        }
        Year y = year.twin();
        int longest = y.deeds.get(i).chain;
        int before = y.deeds.get(i).kept;
        for (int k = 0; k < n; k++) {
            y.pass(y.rule(rule), 0);
            longest = Math.max(longest, y.deeds.get(i).chain);
        }
        return tell(y.deeds.get(i).kept - before, longest);
    }

    int fits(int v) {
        if (!within(v, 0, 99)) {
            return BAD;
        }
        if (deeds() == 0) {
            return STATE;
        }
        List<Integer> sets = year.setsThatCost(v);
        upper = sets.size();
        lower = 1;
        return tell(sets.isEmpty() ? NONE : sets.get(0), 1);
    }

    int sure(int v) {
        if (!within(v, 0, 99)) {
            return BAD;
        }
        if (deeds() == 0) {
            return STATE;
        }
        List<Integer> sets = year.setsThatCost(v);
        if (sets.isEmpty()) {
            return find(4);
        }
        int each = 0;
        int none = 0;
        for (int i = 0; i < deeds(); i++) {
            int bit = 1 << i;
            each |= sets.stream().allMatch(s -> (s & bit) != 0) ? bit : 0;
            none |= !year.deeds.get(i).given && sets.stream().noneMatch(s -> (s & bit) != 0) ? bit : 0;
        }
        return tell(none, each);
    }

    int ask(int v) {
        if (!within(v, 0, 99)) {
            return BAD;
        }
        if (deeds() == 0) {
            return STATE;
        }
        List<Integer> sets = year.setsThatCost(v);
        if (sets.isEmpty()) {
            return find(4);
        }
        for (int part = 0; part <= sets.size(); part++) {
            for (int i = 0; i < deeds(); i++) {
                int bit = 1 << i;
                int with = (int) sets.stream().filter(s -> (s & bit) != 0).count();
                if (!year.deeds.get(i).given && Math.max(with, sets.size() - with) == part) {
                    return tell(part, i);
                }
            }
        }
        return NONE;
    }

    private int refusedPairs(int i, int r) {
        if (!isDeed(i) || !within(r, 0, 5)) {
            return BAD;
        }
        if (rows[r] == null) {
            return find(1);
        }
        if (rows[r].length % 2 == 1) {
            return find(5);
        }
        for (int k = 0; k < rows[r].length; k++) {
            if (k % 2 == 0 ? !within(rows[r][k], 1, 99) : !within(rows[r][k], 0, 20)) {
                return find(3);
            }
        }
        return 0;
    }

    private boolean agrees(Deed d, int r) {
        for (int k = 0; k < rows[r].length; k += 2) {
            if (d.costs(rows[r][k]) != rows[r][k + 1]) {
                return false;
            }
        }
        return true;
    }

    int habits(int i, int r) {
        int refused = refusedPairs(i, r);
        if (refused != 0) {
            return refused;
        }
        int habits = 0;
        int efforts = 0;
        for (int v = 0; v < 10; v++) {
            Deed h = year.deeds.get(i).twin();
            h.habit = v;
            habits |= agrees(h, r) ? 1 << v : 0;
            Deed e = year.deeds.get(i).twin();
            e.effort = v;
            efforts |= agrees(e, r) ? 1 << v : 0;
        }
        return tell(efforts, habits);
    }

    private int kindsOf(int i, int r) {
        int kinds = 0;
        for (int kind = 0; kind < 6; kind++) {
            kinds |= agrees(year.deeds.get(i).as(kind), r) ? 1 << kind : 0;
        }
        return kinds;
    }

    int kinds(int i, int r) {
        int refused = refusedPairs(i, r);
        return refused != 0 ? refused : kindsOf(i, r);
    }

    int test(int i, int r) {
        int refused = refusedPairs(i, r);
        if (refused != 0) {
            return refused;
        }
        int kinds = kindsOf(i, r);
        if (kinds == 0) {
            return NONE;
        }
        int[] greatest = new int[43];
        for (int day = 1; day <= 42; day++) {
            int[] alike = new int[30];
            for (int kind = 0; kind < 6; kind++) {
                if ((kinds & 1 << kind) != 0) {
                    int cost = year.deeds.get(i).as(kind).costs(day);
                    alike[cost]++;
                    greatest[day] = Math.max(greatest[day], alike[cost]);
                }
            }
        }
        int best = 1;
        for (int day = 2; day <= 42; day++) {
            best = greatest[day] < greatest[best] ? day : best;
        }
        return tell(greatest[best], best);
    }

    int spare(int n) {
        if (!within(n, 0, 5)) {
            return BAD;
        }
        if (deeds() == 0) {
            return STATE;
        }
        int best = NONE;
        int most = -1;
        for (int set = 0; set < 1 << deeds(); set++) {
            if ((set & year.open()) != set || Integer.bitCount(set) != n) {
                continue;
            }
            Year slipped = year.twin();
            Year off = year.twin();
            slipped.pass(0, 0);
            off.pass(0, set);
            int saved = 0;
            for (int i = 0; i < deeds(); i++) {
                saved += off.deeds.get(i).habit - slipped.deeds.get(i).habit;
            }
            if (saved > most) {
                most = saved;
                best = set;
            }
        }
        return best == NONE ? NONE : tell(most, best);
    }

    int tempt(int n) {
        if (!within(n, 0, 5)) {
            return BAD;
        }
        if (deeds() == 0) {
            return STATE;
        }
        return tempted(year.open(), year.will, n);
    }

    private int tempted(int left, int will, int n) {
        if (n == 0) {
            return 0;
        }
        if (left == 0) {
            return kept(left, will, n - 1);
        }
        int least = Integer.MAX_VALUE;
        for (int i = 0; i < deeds(); i++) {
            if ((left & 1 << i) != 0) {
                least = Math.min(least, kept(left - (1 << i), will, n - 1));
            }
        }
        return least;
    }

    private int kept(int left, int will, int n) {
        if (n == 0) {
            return 0;
        }
        int most = -1;
        for (int i = 0; i < deeds(); i++) {
            int cost = year.deeds.get(i).costs(year.day);
            if ((left & 1 << i) != 0 && cost <= will) {
                most = Math.max(most, 1 + tempted(left - (1 << i), will - cost, n - 1));
            }
        }
        return most < 0 ? tempted(left, will, n - 1) : most;
    }

    private void share(long above, long below) {
        long common = java.math.BigInteger.valueOf(above).gcd(java.math.BigInteger.valueOf(below)).longValue();
        upper = above / common;
        lower = below / common;
    }

    int odds(int v, int p) {
        if (!within(v, 0, 5) || !within(p, 0, 12)) {
            return BAD;
        }
        if (deeds() == 0) {
            return STATE;
        }
        // ways[k]: in how many of 12 by 12 by .. cases k are kept.
        long[] ways = {1, 0, 0, 0, 0, 0};
        long all = 1;
        for (int n = Integer.bitCount(year.rule(0)); n > 0; n--) {
            for (int k = 5; k >= 0; k--) {
                ways[k] = ways[k] * p + (k > 0 ? ways[k - 1] * (12 - p) : 0);
            }
            all *= 12;
        }
        long sum = 0;
        for (int k = v; k <= 5; k++) {
            sum += ways[k];
        }
        share(sum, all);
        return 1;
    }

    int mid(int p) {
        if (!within(p, 0, 12)) {
            return BAD;
        }
        if (deeds() == 0) {
            return STATE;
        }
        // Every way in which the set can come out, by its weight.
        int set = year.rule(0);
        long sum = 0;
        long all = 0;
        for (int sub = 0; sub < 1 << deeds(); sub++) {
            if ((sub & set) != sub) {
                continue;
            }
            long weight = 1;
            for (int i = 0; i < deeds(); i++) {
                if ((set & 1 << i) != 0) {
                    weight *= (sub & 1 << i) != 0 ? 12 - p : p;
                }
            }
            Year y = year.twin();
            y.pass(sub, 0);
            for (Deed d : y.deeds) {
                sum += d.given ? 0 : weight * d.habit;
            }
            all += weight;
        }
        share(sum, all);
        return 1;
    }

    int lots(int n, int seed) {
        if (!within(n, 1, 20) || !within(seed, 1, 2147483646)) {
            return BAD;
        }
        if (deeds() == 0) {
            return STATE;
        }
        if (year.past.size() + n > 40) {
            return FULL;
        }
        java.math.BigInteger lot = java.math.BigInteger.valueOf(seed);
        int sum = 0;
        for (int k = 0; k < n; k++) {
            lot = lot.multiply(java.math.BigInteger.valueOf(48271)).mod(java.math.BigInteger.valueOf(2147483647));
            int set = year.rule(lot.intValue() % 4);
            int slips = lot.intValue() / 8 % deeds();
            set = (set & 1 << slips) != 0 ? set - (1 << slips) : set;
            sum += day(set, 0);
        }
        return sum;
    }

    int asked() {
        return asked;
    }

    long upper() {
        return upper;
    }

    long lower() {
        return lower;
    }

    int count(int what) {
        int rowsThere = 0;
        int textsThere = 0;
        int keptThere = 0;
        for (int[] r : rows) {
            rowsThere += r == null ? 0 : 1;
        }
        for (byte[] t : texts) {
            textsThere += t == null ? 0 : 1;
        }
        for (Year k : kept) {
            keptThere += k == null ? 0 : 1;
        }
        int habits = year.deeds.stream().filter(d -> !d.given).mapToInt(d -> d.habit).sum();
        int runs = (int) year.deeds.stream().filter(d -> d instanceof Run).count();
        return within(what, 0, 10) ? new int[] {deeds(), year.day, year.past.size(), year.will, year.offs,
            year.open(), habits, runs, rowsThere, textsThere, keptThere}[what] : BAD;
    }

    int finding() {
        return finding;
    }

    int findings(int f) {
        return within(f, 1, 5) ? found[f] : BAD;
    }

    long digest() {
        List<Integer> values = new ArrayList<>();
        for (int what = 0; what <= 10; what++) {
            values.add(count(what));
        }
        for (int i = 0; i < deeds(); i++) {
            for (int what = 0; what <= 7; what++) {
                values.add(trait(i, what));
            }
        }
        for (Year k : kept) {
            values.add(k == null ? -1 : k.past.size());
        }
        for (int[] r : rows) {
            values.add(r == null ? -1 : r.length);
            for (int i = 0; r != null && i < r.length; i++) {
                values.add(r[i]);
            }
        }
        for (byte[] t : texts) {
            values.add(t == null ? -1 : t.length);
            for (int i = 0; t != null && i < t.length; i++) {
                values.add((int) t[i]);
            }
        }
        long h = 17;
        for (int v : values) {
            h = 31 * h + v;
        }
        return h;
    }
}
