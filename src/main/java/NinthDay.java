import java.util.Arrays;

/**
 * Deeds of a year with effort, habit and chains, a will of so much a day and days off.
 * What each call promises stands in the document; every number that comes in is looked at
 * by the public methods, so that the classes inside may rely on it.
 */
public final class NinthDay {
    public static final int BAD = -1, FULL = -2, FINDING = -3, STATE = -4, SPENT = -6, NONE = -9;

    private static final int NOTHING = 1, BEYOND = 2, UNLIKE = 3, NOUGHT = 4, SIZE = 5;
    private static final int ROWS = 6, ROW_PLACES = 40, TEXTS = 4, TEXT_PLACES = 60;
    private static final int MISSING = -1, BLANK = 32;
    private static final int MOST_DEEDS = 5, ALL_SETS = 32, MOST_WILL = 40, MOST_FIGURE = 9;
    private static final int MOST_ACTS = 40, KEPT_YEARS = 3;
    private static final int RULES = 4, CHEAPEST = 0, BY_NUMBER = 1, LONGEST_CHAIN = 2;
    private static final int MOST_PLAN = 3, MOST_AHEAD = 60, MOST_ALONE = 30, MOST_SUM = 99;
    private static final int LAST_SEEN_DAY = 99, MOST_SEEN_COST = 20, LAST_TEST_DAY = 42;
    private static final int TWELVE = 12, MOST_LOTS = 20;
    private static final int TRAITS = 8, COUNTS = 11;
    private static final int LOT_FACTOR = 48271, LOT_MODULUS = 2147483647;

    private final Rows rows;
    private final Texts texts;
    private final Year first;
    private final Year now;
    private final Year aside;
    private final Reader reader;
    private final Acts acts;
    private final Planner planner;
    private final Share share;
    private final int[] found;
    private int latest;
    private int told;

    public NinthDay() {
        rows = new Rows();
        texts = new Texts();
        first = new Year();
        now = new Year();
        aside = new Year();
        reader = new Reader(texts);
        acts = new Acts();
        planner = new Planner();
        share = new Share();
        found = new int[SIZE + 1];
        latest = 0;
        told = 0;
    }

    // ---- 1 rows, texts, years

    public int row(int r, int n) {
        if (!isRow(r) || n > ROW_PLACES) {
            return BAD;
        }
        if (n < 0) {
            return refuse(SIZE);
        }
        rows.make(r, n);
        return n;
    }

    public int lay(int r, int i, int v) {
        int refused = refusedPlace(r, i);
        if (refused != 0) {
            return refused;
        }
        int old = rows.read(r, i);
        rows.write(r, i, v);
        return tell(old);
    }

    public int at(int r, int i) {
        int refused = refusedPlace(r, i);
        if (refused != 0) {
            return refused;
        }
        return tell(rows.read(r, i));
    }

    public int tear(int r) {
        if (!isRow(r)) {
            return BAD;
        }
        if (!rows.isThere(r)) {
            return refuse(NOTHING);
        }
        rows.remove(r);
        return 1;
    }

    public int copy(int r, int i, int to, int j, int n) {
        if (!isRow(r) || !isRow(to)) {
            return BAD;
        }
        if (n < 0) {
            return refuse(SIZE);
        }
        if (!rows.isThere(r) || !rows.isThere(to)) {
            return refuse(NOTHING);
        }
        if (!rows.hasPart(r, i, n) || !rows.hasPart(to, j, n)) {
            return refuse(BEYOND);
        }
        rows.move(r, i, to, j, n);
        return 1;
    }

    public int mean(int r) {
        if (!isRow(r)) {
            return BAD;
        }
        if (!rows.isThere(r)) {
            return refuse(NOTHING);
        }
        int n = rows.length(r);
        if (n <= 0) {
            return refuse(NOUGHT);
        }
        long sum = 0;
        for (int i = 0; i < n; i++) {
            sum += rows.read(r, i);
        }
        return tell((int) (sum / n));
    }

    public int text(int t, int n) {
        if (!isText(t) || n > TEXT_PLACES) {
            return BAD;
        }
        if (n < 0) {
            return refuse(SIZE);
        }
        texts.make(t, n);
        return n;
    }

    public int put(int t, int i, int v) {
        if (!isText(t)) {
            return BAD;
        }
        if (!texts.isThere(t)) {
            return refuse(NOTHING);
        }
        if (i < 0 || i >= texts.length(t)) {
            return refuse(BEYOND);
        }
        int old = texts.read(t, i);
        texts.write(t, i, v);
        return old + 1000;
    }

    public int fault(int t) {
        if (!isText(t)) {
            return BAD;
        }
        if (!texts.isThere(t)) {
            return refuse(NOTHING);
        }
        return reader.readYear(t, aside);
    }

    public int year(int t) {
        if (!isText(t)) {
            return BAD;
        }
        if (!texts.isThere(t)) {
            return refuse(NOTHING);
        }
        if (reader.readYear(t, aside) != NONE) {
            return STATE;
        }
        first.become(aside);
        now.become(aside);
        acts.forget();
        return now.size;
    }

    public int deed(int i, int what) {
        if (!isDeed(i) || what < 0 || what >= TRAITS) {
            return BAD;
        }
        return tell(now.trait(i, what));
    }

    public int mark(int i, int kind) {
        if (!isDeed(i) || kind <= Kinds.DEED || kind >= Kinds.HOW_MANY) {
            return BAD;
        }
        if (!Kinds.isOf(now.kind[i], kind)) {
            return refuse(UNLIKE);
        }
        int price = now.price(i);
        switch (kind) {
            case Kinds.RUN:
                return (3 - now.day % 3) % 3;
            case Kinds.SUGAR:
                return price - now.priceAs(i, Kinds.DEED, now.day);
            case Kinds.SMALL:
                return Math.max(0, now.priceAs(i, Kinds.DEED, now.day) - price);
            case Kinds.SHOES:
                return now.priceAs(i, Kinds.RUN, now.day) - price;
            default:
                return now.chain[i] == 0 ? 1 : 0;
        }
    }

    // ---- 2 acts

    public int day(int set, int off) {
        if (!isSet(set) || !isSet(off) || (set & off) != 0 || ((set | off) & now.givenUp) != 0) {
            return BAD;
        }
        if (now.size == 0) {
            return STATE;
        }
        if (now.weighed()[set] > now.will || Integer.bitCount(off) > now.offs) {
            return SPENT;
        }
        if (!acts.haveRoom(1)) {
            return FULL;
        }
        act(Acts.pack(Acts.DAY, set, off));
        return Integer.bitCount(set);
    }

    public int drop(int i) {
        if (!isDeed(i)) {
            return BAD;
        }
        if (now.isGivenUp(i)) {
            return STATE;
        }
        if (!acts.haveRoom(1)) {
            return FULL;
        }
        act(Acts.pack(Acts.DROP, i, 0));
        return Integer.bitCount(now.notGivenUp());
    }

    public int take(int i) {
        if (!isDeed(i)) {
            return BAD;
        }
        if (!now.isGivenUp(i)) {
            return STATE;
        }
        if (!acts.haveRoom(1)) {
            return FULL;
        }
        act(Acts.pack(Acts.TAKE, i, 0));
        return Integer.bitCount(now.notGivenUp());
    }

    public int will(int v) {
        if (v < 0 || v > MOST_WILL) {
            return BAD;
        }
        if (now.size == 0 || now.will == v) {
            return STATE;
        }
        if (!acts.haveRoom(1)) {
            return FULL;
        }
        int old = now.will;
        act(Acts.pack(Acts.WILL, v, 0));
        return old;
    }

    public int undo(int n) {
        if (n < 0 || n > acts.size) {
            return BAD;
        }
        int undone = acts.size - n;
        acts.size = n;
        replay();
        return undone;
    }

    public int keep(int k) {
        if (!isKeptPlace(k)) {
            return BAD;
        }
        if (now.size == 0) {
            return STATE;
        }
        acts.store(k);
        return acts.size;
    }

    public int on(int k) {
        if (!isKeptPlace(k)) {
            return BAD;
        }
        if (acts.storedSize(k) < 0) {
            return refuse(NOTHING);
        }
        acts.restore(k);
        replay();
        return acts.size;
    }

    // ---- 3 what can be kept

    public int cost(int set) {
        if (!isSet(set)) {
            return BAD;
        }
        return now.weighed()[set];
    }

    public int most() {
        if (now.size == 0) {
            return STATE;
        }
        int[] sums = now.weighed();
        int open = now.notGivenUp();
        int best = 0;
        for (int set = 1; set < ALL_SETS; set++) {
            if ((set & ~open) == 0 && sums[set] <= now.will && isMore(set, best, sums)) {
                best = set;
            }
        }
        told = best;
        return Integer.bitCount(best);
    }

    public int rule(int rule) {
        if (!isRule(rule)) {
            return BAD;
        }
        if (now.size == 0) {
            return STATE;
        }
        int set = now.choice(rule);
        told = now.weighed()[set];
        return set;
    }

    // ---- 4 days to come

    public int plan(int n, int r) {
        if (n < 0 || n > MOST_PLAN || !isRow(r)) {
            return BAD;
        }
        if (now.size == 0) {
            return STATE;
        }
        int sum = planner.best(now, n);
        rows.make(r, n);
        for (int i = 0; i < n; i++) {
            rows.write(r, i, planner.chosen[i]);
        }
        return sum;
    }

    public int till(int rule) {
        if (!isRule(rule)) {
            return BAD;
        }
        if (now.size == 0) {
            return STATE;
        }
        aside.become(now);
        int sum = 0;
        for (int days = 0; days <= MOST_AHEAD; days++) {
            if (aside.goesByItself()) {
                told = sum;
                return days;
            }
            sum += Integer.bitCount(aside.passBy(rule));
        }
        return NONE;
    }

    public int better(int n) {
        if (n < 0 || n > MOST_AHEAD) {
            return BAD;
        }
        if (now.size == 0) {
            return STATE;
        }
        int best = 0;
        int most = -1;
        for (int rule = 0; rule < RULES; rule++) {
            int sum = keptBy(rule, n);
            if (sum > most) {
                best = rule;
                most = sum;
            }
        }
        told = most;
        return best;
    }

    public int least(int i, int n) {
        if (!isDeed(i) || n < 0 || n > MOST_ALONE) {
            return BAD;
        }
        int habit = now.habit[i];
        int most = 0;
        for (int days = 0; days < n; days++) {
            int price = Kinds.price(now.kind[i], now.effort[i], habit, now.pull[i],
                    now.chain[i] + days, now.day + days);
            most = Math.max(most, price);
            habit = Kinds.grown(now.kind[i], habit);
        }
        return most;
    }

    public int chain(int i, int n, int rule) {
        if (!isDeed(i) || n < 0 || n > MOST_AHEAD || !isRule(rule)) {
            return BAD;
        }
        aside.become(now);
        int longest = aside.chain[i];
        int times = 0;
        for (int days = 0; days < n; days++) {
            times += (aside.passBy(rule) >> i) & 1;
            longest = Math.max(longest, aside.chain[i]);
        }
        told = times;
        return longest;
    }

    // ---- 5 which were kept

    public int fits(int v) {
        if (!isSum(v)) {
            return BAD;
        }
        if (now.size == 0) {
            return STATE;
        }
        int[] sums = now.weighed();
        int lowest = NONE;
        for (int set = ALL_SETS - 1; set >= 0; set--) {
            if (isFit(sums, set, v)) {
                lowest = set;
            }
        }
        share.reduce(fitting(v, 0, 0), 1);
        return tell(lowest);
    }

    public int sure(int v) {
        int refused = refusedSum(v);
        if (refused != 0) {
            return refused;
        }
        int[] sums = now.weighed();
        int inEach = now.notGivenUp();
        int inSome = 0;
        for (int set = 0; set < ALL_SETS; set++) {
            if (isFit(sums, set, v)) {
                inEach &= set;
                inSome |= set;
            }
        }
        told = now.notGivenUp() & ~inSome;
        return inEach;
    }

    public int ask(int v) {
        int refused = refusedSum(v);
        if (refused != 0) {
            return refused;
        }
        int best = NONE;
        int least = ALL_SETS + 1;
        for (int i = 0; i < now.size; i++) {
            int bit = 1 << i;
            int greater = Math.max(fitting(v, bit, bit), fitting(v, bit, 0));
            if (!now.isGivenUp(i) && greater < least) {
                best = i;
                least = greater;
            }
        }
        if (best != NONE) {
            told = least;
        }
        return best;
    }

    // ---- 6 what one costs

    public int habits(int i, int r) {
        int refused = refusedPairs(i, r);
        if (refused != 0) {
            return refused;
        }
        int fitHabits = 0;
        int fitEfforts = 0;
        for (int v = 0; v <= MOST_FIGURE; v++) {
            if (agrees(i, r, now.kind[i], now.effort[i], v)) {
                fitHabits |= 1 << v;
            }
            if (agrees(i, r, now.kind[i], v, now.habit[i])) {
                fitEfforts |= 1 << v;
            }
        }
        told = fitEfforts;
        return fitHabits;
    }

    public int kinds(int i, int r) {
        int refused = refusedPairs(i, r);
        if (refused != 0) {
            return refused;
        }
        return kindsThatFit(i, r);
    }

    public int test(int i, int r) {
        int refused = refusedPairs(i, r);
        if (refused != 0) {
            return refused;
        }
        int fit = kindsThatFit(i, r);
        if (fit == 0) {
            return NONE;
        }
        int best = 1;
        int least = Kinds.HOW_MANY + 1;
        for (int day = 1; day <= LAST_TEST_DAY; day++) {
            int part = greatestPart(i, fit, day);
            if (part < least) {
                best = day;
                least = part;
            }
        }
        told = least;
        return best;
    }

    // ---- 7 days off, by turns

    public int spare(int n) {
        if (n < 0 || n > MOST_DEEDS) {
            return BAD;
        }
        if (now.size == 0) {
            return STATE;
        }
        int open = now.notGivenUp();
        int best = NONE;
        int most = -1;
        for (int set = 0; set < ALL_SETS; set++) {
            if ((set & ~open) == 0 && Integer.bitCount(set) == n && now.lossOf(set) > most) {
                best = set;
                most = now.lossOf(set);
            }
        }
        if (best != NONE) {
            told = most;
        }
        return best;
    }

    public int tempt(int n) {
        if (n < 0 || n > MOST_DEEDS) {
            return BAD;
        }
        if (now.size == 0) {
            return STATE;
        }
        return turns(now.weighed(), now.notGivenUp(), now.will, n, true);
    }

    // ---- 8 chances, lots

    public int odds(int v, int p) {
        if (v < 0 || v > MOST_DEEDS || p < 0 || p > TWELVE) {
            return BAD;
        }
        if (now.size == 0) {
            return STATE;
        }
        int all = Integer.bitCount(now.choice(CHEAPEST));
        long upper = 0;
        for (int set = 0; set < 1 << all; set++) {
            int kept = Integer.bitCount(set);
            if (kept >= v) {
                upper += power(TWELVE - p, kept) * power(p, all - kept);
            }
        }
        share.reduce(upper, power(TWELVE, all));
        return 1;
    }

    public int mid(int p) {
        if (p < 0 || p > TWELVE) {
            return BAD;
        }
        if (now.size == 0) {
            return STATE;
        }
        int set = now.choice(CHEAPEST);
        long upper = 0;
        for (int i = 0; i < now.size; i++) {
            if (!now.isGivenUp(i)) {
                int slips = (set >> i & 1) == 1 ? p : TWELVE;
                upper += slips * Kinds.shrunk(now.kind[i], now.habit[i]);
                upper += (TWELVE - slips) * Kinds.grown(now.kind[i], now.habit[i]);
            }
        }
        share.reduce(upper, TWELVE);
        return 1;
    }

    public int lots(int n, int seed) {
        if (n < 1 || n > MOST_LOTS || seed < 1 || seed >= LOT_MODULUS) {
            return BAD;
        }
        if (now.size <= 0) {
            return STATE;
        }
        if (!acts.haveRoom(n)) {
            return FULL;
        }
        long lot = seed;
        int sum = 0;
        for (int days = 0; days < n; days++) {
            lot = lot * LOT_FACTOR % LOT_MODULUS;
            int slips = (int) (lot / 8 % now.size);
            int set = now.choice((int) (lot % RULES)) & ~(1 << slips);
            act(Acts.pack(Acts.DAY, set, 0));
            sum += Integer.bitCount(set);
        }
        return sum;
    }

    // ---- 9 what is told

    public int asked() {
        return told;
    }

    public long upper() {
        return share.upper;
    }

    public long lower() {
        return share.lower;
    }

    public int count(int what) {
        switch (what) {
            case 0:
                return now.size;
            case 1:
                return now.day;
            case 2:
                return acts.size;
            case 3:
                return now.will;
            case 4:
                return now.offs;
            case 5:
                return now.notGivenUp();
            case 6:
                return now.openHabits();
            case 7:
                return now.runs();
            case 8:
                return rows.howMany();
            case 9:
                return texts.howMany();
            case 10:
                return acts.howManyStored();
            default:
                return BAD;
        }
    }

    public int finding() {
        return latest;
    }

    public int findings(int f) {
        if (f < NOTHING || f > SIZE) {
            return BAD;
        }
        return found[f];
    }

    public long digest() {
        long h = 17;
        for (int what = 0; what < COUNTS; what++) {
            h = 31 * h + count(what);
        }
        for (int i = 0; i < now.size; i++) {
            for (int what = 0; what < TRAITS; what++) {
                h = 31 * h + now.trait(i, what);
            }
        }
        for (int k = 0; k < KEPT_YEARS; k++) {
            h = 31 * h + acts.storedSize(k);
        }
        return texts.digestOn(rows.digestOn(h));
    }

    // ---- what the calls share

    private int refuse(int f) {
        latest = f;
        found[f]++;
        return FINDING;
    }

    private int tell(int v) {
        told = v;
        return 1;
    }

    private void act(int packed) {
        acts.add(packed);
        now.follow(packed);
    }

    /** The year is always its text and its acts, so taking acts back is doing the others anew. */
    private void replay() {
        now.become(first);
        for (int n = 0; n < acts.size; n++) {
            now.follow(acts.done[n]);
        }
    }

    private static boolean isRow(int r) {
        return r >= 0 && r < ROWS;
    }

    private static boolean isText(int t) {
        return t >= 0 && t < TEXTS;
    }

    private static boolean isKeptPlace(int k) {
        return k >= 0 && k < KEPT_YEARS;
    }

    private static boolean isRule(int rule) {
        return rule >= 0 && rule < RULES;
    }

    private static boolean isSum(int v) {
        return v >= 0 && v <= MOST_SUM;
    }

    private boolean isDeed(int i) {
        return i >= 0 && i < now.size;
    }

    private boolean isSet(int set) {
        return set >= 0 && set < 1 << now.size;
    }

    /** 0 if a place of a row is there; else the answer that refuses it. */
    private int refusedPlace(int r, int i) {
        if (!isRow(r)) {
            return BAD;
        }
        if (!rows.isThere(r)) {
            return refuse(NOTHING);
        }
        if (i < 0 || i >= rows.length(r)) {
            return refuse(BEYOND);
        }
        return 0;
    }

    private int refusedSum(int v) {
        if (!isSum(v)) {
            return BAD;
        }
        if (now.size == 0) {
            return STATE;
        }
        if (fitting(v, 0, 0) == 0) {
            return refuse(NOUGHT);
        }
        return 0;
    }

    private int refusedPairs(int i, int r) {
        if (!isDeed(i) || !isRow(r)) {
            return BAD;
        }
        if (!rows.isThere(r)) {
            return refuse(NOTHING);
        }
        int n = rows.length(r);
        if (n % 2 != 0) {
            return refuse(SIZE);
        }
        for (int k = 0; k + 1 < n; k += 2) {
            int day = rows.read(r, k);
            int price = rows.read(r, k + 1);
            if (day < 1 || day > LAST_SEEN_DAY || price < 0 || price > MOST_SEEN_COST) {
                return refuse(UNLIKE);
            }
        }
        return 0;
    }

    /** Whether a set is to be told rather than a lesser one. */
    private static boolean isMore(int set, int best, int[] sums) {
        int more = Integer.bitCount(set) - Integer.bitCount(best);
        return more > 0 || more == 0 && sums[set] < sums[best];
    }

    private boolean isFit(int[] sums, int set, int v) {
        return (set & ~now.notGivenUp()) == 0 && sums[set] == v;
    }

    /** How many sets cost v that are, within a mask, as told. */
    private int fitting(int v, int mask, int as) {
        int[] sums = now.weighed();
        int n = 0;
        for (int set = 0; set < ALL_SETS; set++) {
            if ((set & mask) == as && isFit(sums, set, v)) {
                n++;
            }
        }
        return n;
    }

    private int keptBy(int rule, int n) {
        aside.become(now);
        int sum = 0;
        for (int days = 0; days < n; days++) {
            sum += Integer.bitCount(aside.passBy(rule));
        }
        return sum;
    }

    /** Whether a deed, were it of this kind, effort and habit, would have cost all that a row says. */
    private boolean agrees(int i, int r, int kind, int effort, int habit) {
        int n = rows.length(r);
        for (int k = 0; k + 1 < n; k += 2) {
            int price = Kinds.price(kind, effort, habit, now.pull[i], now.chain[i], rows.read(r, k));
            if (price != rows.read(r, k + 1)) {
                return false;
            }
        }
        return true;
    }

    private int kindsThatFit(int i, int r) {
        int fit = 0;
        for (int kind = 0; kind < Kinds.HOW_MANY; kind++) {
            if (agrees(i, r, kind, now.effort[i], now.habit[i])) {
                fit |= 1 << kind;
            }
        }
        return fit;
    }

    /** Of some kinds the most that would cost alike on a day. */
    private int greatestPart(int i, int fit, int day) {
        int greatest = 0;
        for (int kind = 0; kind < Kinds.HOW_MANY; kind++) {
            if ((fit >> kind & 1) == 1) {
                greatest = Math.max(greatest, partLike(i, fit, day, now.priceAs(i, kind, day)));
            }
        }
        return greatest;
    }

    private int partLike(int i, int fit, int day, int price) {
        int part = 0;
        for (int kind = 0; kind < Kinds.HOW_MANY; kind++) {
            if ((fit >> kind & 1) == 1 && now.priceAs(i, kind, day) == price) {
                part++;
            }
        }
        return part;
    }

    /** How many will be kept in the turns left, both sides playing their best. */
    private static int turns(int[] sums, int left, int will, int n, boolean tempting) {
        if (n <= 0) {
            return 0;
        }
        int best = NONE;
        for (int i = 0; i < MOST_DEEDS; i++) {
            int bit = 1 << i;
            if ((left & bit) != 0 && (tempting || sums[bit] <= will)) {
                int gained = tempting ? 0 : 1;
                int paid = tempting ? 0 : sums[bit];
                int sum = gained + turns(sums, left & ~bit, will - paid, n - 1, !tempting);
                best = best == NONE ? sum : tempting ? Math.min(best, sum) : Math.max(best, sum);
            }
        }
        return best == NONE ? turns(sums, left, will, n - 1, !tempting) : best;
    }

    private static long power(int base, int times) {
        long product = 1;
        for (int k = 0; k < times; k++) {
            product *= base;
        }
        return product;
    }

    /** Rows of ints, side by side in one array so that none is made anew. */
    private static final class Rows {
        private final int[] sizes;
        private final int[] cells;

        Rows() {
            sizes = new int[ROWS];
            Arrays.fill(sizes, MISSING);
            cells = new int[ROWS * ROW_PLACES];
        }

        boolean isThere(int r) {
            return sizes[r] != MISSING;
        }

        int length(int r) {
            return sizes[r];
        }

        boolean hasPart(int r, int i, int n) {
            return i >= 0 && i <= sizes[r] && n <= sizes[r] - i;
        }

        void make(int r, int n) {
            sizes[r] = n;
            Arrays.fill(cells, r * ROW_PLACES, r * ROW_PLACES + n, 0);
        }

        void remove(int r) {
            sizes[r] = MISSING;
        }

        int read(int r, int i) {
            return cells[r * ROW_PLACES + i];
        }

        void write(int r, int i, int v) {
            cells[r * ROW_PLACES + i] = v;
        }

        void move(int r, int i, int to, int j, int n) {
            System.arraycopy(cells, r * ROW_PLACES + i, cells, to * ROW_PLACES + j, n);
        }

        int howMany() {
            int n = 0;
            for (int r = 0; r < ROWS; r++) {
                n += isThere(r) ? 1 : 0;
            }
            return n;
        }

        long digestOn(long before) {
            long h = before;
            for (int r = 0; r < ROWS; r++) {
                h = 31 * h + sizes[r];
                for (int i = 0; i < sizes[r]; i++) {
                    h = 31 * h + read(r, i);
                }
            }
            return h;
        }
    }

    /** Texts of bytes, side by side in one array so that none is made anew. */
    private static final class Texts {
        private final int[] sizes;
        private final byte[] cells;

        Texts() {
            sizes = new int[TEXTS];
            Arrays.fill(sizes, MISSING);
            cells = new byte[TEXTS * TEXT_PLACES];
        }

        boolean isThere(int t) {
            return sizes[t] != MISSING;
        }

        int length(int t) {
            return sizes[t];
        }

        void make(int t, int n) {
            sizes[t] = n;
            Arrays.fill(cells, t * TEXT_PLACES, t * TEXT_PLACES + n, (byte) BLANK);
        }

        int read(int t, int i) {
            return cells[t * TEXT_PLACES + i];
        }

        void write(int t, int i, int v) {
            cells[t * TEXT_PLACES + i] = (byte) v;
        }

        int howMany() {
            int n = 0;
            for (int t = 0; t < TEXTS; t++) {
                n += isThere(t) ? 1 : 0;
            }
            return n;
        }

        long digestOn(long before) {
            long h = before;
            for (int t = 0; t < TEXTS; t++) {
                h = 31 * h + sizes[t];
                for (int i = 0; i < sizes[t]; i++) {
                    h = 31 * h + read(t, i);
                }
            }
            return h;
        }
    }

    /** Reads a text as a year, item by item, until its end or the first place that is wrong. */
    private static final class Reader {
        private final Texts texts;
        private int t;
        private int size;
        private int place;
        private int wrong;

        Reader(Texts from) {
            texts = from;
        }

        int readYear(int number, Year into) {
            t = number;
            size = texts.length(number);
            place = 0;
            wrong = NONE;
            into.clear();
            readHead(into);
            passBlanks();
            for (int k = 0; k < TEXT_PLACES && wrong == NONE && place < size; k++) {
                readDeed(into);
                passBlanks();
            }
            if (wrong == NONE && into.size == 0) {
                wrong = size;
            }
            return wrong;
        }

        private void passBlanks() {
            while (place < size && texts.read(t, place) == BLANK) {
                place++;
            }
        }

        private void readHead(Year into) {
            passBlanks();
            if (place >= size || texts.read(t, place) != Kinds.YEAR_LETTER) {
                wrong = place;
                return;
            }
            place++;
            int both = place;
            into.will = 10 * readFigure();
            into.will += readFigure();
            if (wrong == NONE && into.will > MOST_WILL) {
                wrong = both;
            }
            into.offs = readFigure();
        }

        private void readDeed(Year into) {
            int kind = Kinds.byLetter(texts.read(t, place));
            if (kind == NONE || into.size >= MOST_DEEDS) {
                wrong = place;
                return;
            }
            place++;
            int effort = readFigure();
            int habit = readFigure();
            int pull = readFigure();
            into.addDeed(kind, effort, habit, pull);
        }

        /** The text's end is at its size, so that place is right for an early end as well. */
        private int readFigure() {
            if (wrong != NONE) {
                return 0;
            }
            int figure = place < size ? texts.read(t, place) - '0' : NONE;
            if (figure < 0 || figure > MOST_FIGURE) {
                wrong = place;
                return 0;
            }
            place++;
            return figure;
        }
    }

    /** What a deed's kind makes of effort, habit, pull, chain and day. */
    private static final class Kinds {
        static final int DEED = 0, RUN = 1, SUGAR = 2, SMALL = 3, SHOES = 4, FRENCH = 5, HOW_MANY = 6;
        static final int YEAR_LETTER = 119;
        private static final int[] LETTERS = {100, 114, 115, 109, 104, 102};
        private static final int[] ABOVE = {DEED, DEED, DEED, DEED, RUN, SMALL};

        static int byLetter(int letter) {
            for (int kind = 0; kind < HOW_MANY; kind++) {
                if (LETTERS[kind] == letter) {
                    return kind;
                }
            }
            return NONE;
        }

        static boolean isOf(int kind, int other) {
            return kind == other || ABOVE[kind] == other || other == DEED;
        }

        static int price(int kind, int effort, int habit, int pull, int chain, int day) {
            int bare = Math.max(0, effort - habit);
            int rainy = bare + (day % 3 == 0 ? 2 : 0);
            switch (kind) {
                case RUN:
                    return rainy;
                case SHOES:
                    return Math.max(0, rainy - 1);
                case SUGAR:
                    return bare + (day % 7 == 6 ? pull : 0);
                case SMALL:
                    return bare / 2;
                case FRENCH:
                    return bare / 2 + (chain == 0 ? 1 : 0);
                default:
                    return bare;
            }
        }

        static int grown(int kind, int habit) {
            return Math.min(MOST_FIGURE, habit + (isOf(kind, SMALL) ? 2 : 1));
        }

        static int shrunk(int kind, int habit) {
            return Math.max(0, habit - (kind == SUGAR ? 2 : 1));
        }
    }

    /** A year as it stands on one day. */
    private static final class Year {
        private final int[] kind;
        private final int[] effort;
        private final int[] habit;
        private final int[] pull;
        private final int[] chain;
        private final int[] timesKept;
        private final int[] sums;
        private int size;
        private int day;
        private int will;
        private int offs;
        private int givenUp;

        Year() {
            kind = new int[MOST_DEEDS];
            effort = new int[MOST_DEEDS];
            habit = new int[MOST_DEEDS];
            pull = new int[MOST_DEEDS];
            chain = new int[MOST_DEEDS];
            timesKept = new int[MOST_DEEDS];
            sums = new int[ALL_SETS];
            day = 1;
        }

        void clear() {
            size = 0;
            day = 1;
            will = 0;
            offs = 0;
            givenUp = 0;
        }

        void addDeed(int itsKind, int itsEffort, int itsHabit, int itsPull) {
            if (size >= MOST_DEEDS) {
                return;
            }
            kind[size] = itsKind;
            effort[size] = itsEffort;
            habit[size] = itsHabit;
            pull[size] = itsPull;
            chain[size] = 0;
            timesKept[size] = 0;
            size++;
        }

        void become(Year other) {
            System.arraycopy(other.kind, 0, kind, 0, MOST_DEEDS);
            System.arraycopy(other.effort, 0, effort, 0, MOST_DEEDS);
            System.arraycopy(other.habit, 0, habit, 0, MOST_DEEDS);
            System.arraycopy(other.pull, 0, pull, 0, MOST_DEEDS);
            System.arraycopy(other.chain, 0, chain, 0, MOST_DEEDS);
            System.arraycopy(other.timesKept, 0, timesKept, 0, MOST_DEEDS);
            size = other.size;
            day = other.day;
            will = other.will;
            offs = other.offs;
            givenUp = other.givenUp;
        }

        int trait(int i, int what) {
            switch (what) {
                case 0:
                    return kind[i];
                case 1:
                    return effort[i];
                case 2:
                    return habit[i];
                case 3:
                    return pull[i];
                case 4:
                    return price(i);
                case 5:
                    return chain[i];
                case 6:
                    return isGivenUp(i) ? 1 : 0;
                default:
                    return timesKept[i];
            }
        }

        boolean isGivenUp(int i) {
            return (givenUp >> i & 1) == 1;
        }

        int notGivenUp() {
            return ((1 << size) - 1) & ~givenUp;
        }

        int openHabits() {
            int sum = 0;
            for (int i = 0; i < size; i++) {
                sum += isGivenUp(i) ? 0 : habit[i];
            }
            return sum;
        }

        int runs() {
            int n = 0;
            for (int i = 0; i < size; i++) {
                n += Kinds.isOf(kind[i], Kinds.RUN) ? 1 : 0;
            }
            return n;
        }

        int price(int i) {
            return priceAs(i, kind[i], day);
        }

        int priceAs(int i, int asKind, int onDay) {
            return Kinds.price(asKind, effort[i], habit[i], pull[i], chain[i], onDay);
        }

        /** What each set costs today; the array is this year's own and is filled anew by each call. */
        int[] weighed() {
            sums[0] = 0;
            for (int i = 0; i < MOST_DEEDS; i++) {
                int bit = 1 << i;
                int price = i < size ? Kinds.price(kind[i], effort[i], habit[i], pull[i], chain[i], day) : 0;
                for (int set = 0; set < bit; set++) {
                    sums[bit | set] = sums[set] + price;
                }
            }
            return sums;
        }

        int lossOf(int set) {
            int sum = 0;
            for (int i = 0; i < size; i++) {
                if ((set >> i & 1) == 1) {
                    sum += habit[i] - Kinds.shrunk(kind[i], habit[i]);
                }
            }
            return sum;
        }

        boolean goesByItself() {
            for (int i = 0; i < size; i++) {
                if (!isGivenUp(i) && habit[i] < effort[i]) {
                    return false;
                }
            }
            return true;
        }

        /** The set that a rule keeps today. */
        int choice(int rule) {
            int[] prices = weighed();
            int set = 0;
            int waiting = notGivenUp();
            for (int k = 0; k < size && waiting != 0; k++) {
                int bit = foremost(rule, waiting, prices);
                waiting &= ~bit;
                if (prices[set | bit] <= will) {
                    set |= bit;
                }
            }
            return set;
        }

        /** Of those waiting the one (its bit) that a rule takes first. */
        private int foremost(int rule, int waiting, int[] prices) {
            int best = 0;
            int least = 0;
            for (int i = 0; i < size; i++) {
                int bit = 1 << i;
                int rank = rank(rule, i, prices);
                if ((waiting & bit) != 0 && (best == 0 || rank < least)) {
                    best = bit;
                    least = rank;
                }
            }
            return best;
        }

        private int rank(int rule, int i, int[] prices) {
            switch (rule) {
                case CHEAPEST:
                    return prices[1 << i];
                case BY_NUMBER:
                    return i;
                case LONGEST_CHAIN:
                    return -chain[i];
                default:
                    return habit[i];
            }
        }

        int passBy(int rule) {
            int set = choice(rule);
            pass(set, 0);
            return set;
        }

        void pass(int set, int off) {
            for (int i = 0; i < size; i++) {
                if (isGivenUp(i)) {
                    continue;
                }
                if ((set >> i & 1) == 1) {
                    habit[i] = Kinds.grown(kind[i], habit[i]);
                    chain[i]++;
                    timesKept[i]++;
                } else if ((off >> i & 1) == 1) {
                    offs--;
                } else {
                    habit[i] = Kinds.shrunk(kind[i], habit[i]);
                    chain[i] = 0;
                }
            }
            day++;
        }

        void follow(int packed) {
            int a = Acts.firstOf(packed);
            switch (Acts.whatOf(packed)) {
                case Acts.DAY:
                    pass(a, Acts.secondOf(packed));
                    break;
                case Acts.DROP:
                    givenUp |= 1 << a;
                    break;
                case Acts.TAKE:
                    givenUp &= ~(1 << a);
                    if (a < MOST_DEEDS) {
                        chain[a] = 0;
                    }
                    break;
                default:
                    will = a;
                    break;
            }
        }
    }

    /** What was done since the year began, and the same of the kept years: all share one beginning. */
    private static final class Acts {
        static final int DAY = 0, DROP = 1, TAKE = 2, WILL = 3;
        private static final int BITS = 6, MASK = 63;

        private final int[] done;
        private final int[] stored;
        private final int[] storedSizes;
        private int size;

        Acts() {
            done = new int[MOST_ACTS];
            stored = new int[KEPT_YEARS * MOST_ACTS];
            storedSizes = new int[KEPT_YEARS];
            Arrays.fill(storedSizes, MISSING);
        }

        static int pack(int what, int a, int b) {
            return (what << BITS | a) << BITS | b;
        }

        static int whatOf(int packed) {
            return packed >> BITS >> BITS;
        }

        static int firstOf(int packed) {
            return packed >> BITS & MASK;
        }

        static int secondOf(int packed) {
            return packed & MASK;
        }

        boolean haveRoom(int more) {
            return size + more <= MOST_ACTS;
        }

        void add(int packed) {
            if (size < MOST_ACTS) {
                done[size] = packed;
                size++;
            }
        }

        void forget() {
            size = 0;
            Arrays.fill(storedSizes, MISSING);
        }

        int storedSize(int k) {
            return storedSizes[k];
        }

        int howManyStored() {
            int n = 0;
            for (int k = 0; k < KEPT_YEARS; k++) {
                n += storedSizes[k] != MISSING ? 1 : 0;
            }
            return n;
        }

        void store(int k) {
            System.arraycopy(done, 0, stored, k * MOST_ACTS, size);
            storedSizes[k] = size;
        }

        void restore(int k) {
            size = storedSizes[k];
            System.arraycopy(stored, k * MOST_ACTS, done, 0, size);
        }
    }

    /** Tries all rows of sets, lesser ones ahead, so that the first of the best is the one told. */
    private static final class Planner {
        private final Year one;
        private final Year two;
        private final int[] tried;
        private final int[] chosen;
        private int most;

        Planner() {
            one = new Year();
            two = new Year();
            tried = new int[MOST_PLAN];
            chosen = new int[MOST_PLAN];
        }

        int best(Year now, int n) {
            most = -1;
            seek(this, now, 0, n, 0);
            return most;
        }

        private static void seek(Planner p, Year from, int depth, int n, int sum) {
            if (depth >= n || depth >= MOST_PLAN) {
                p.note(n, sum);
                return;
            }
            int open = from.notGivenUp();
            int[] sums = from.weighed();
            int hoped = sum + (n - depth) * Integer.bitCount(open);
            for (int set = 0; set < ALL_SETS && hoped > p.most; set++) {
                if ((set & ~open) == 0 && sums[set] <= from.will) {
                    p.tried[depth] = set;
                    seek(p, p.behind(from, depth, n, set), depth + 1, n, sum + Integer.bitCount(set));
                }
            }
        }

        /** Behind the last day nothing is asked any more: it need not be passed. */
        private Year behind(Year from, int depth, int n, int set) {
            if (depth + 1 >= n) {
                return from;
            }
            Year to = depth == 0 ? one : two;
            to.become(from);
            to.pass(set, 0);
            return to;
        }

        private void note(int n, int sum) {
            if (sum > most) {
                most = sum;
                for (int i = 0; i < n && i < MOST_PLAN; i++) {
                    chosen[i] = tried[i];
                }
            }
        }
    }

    /** Two numbers in lowest terms. */
    private static final class Share {
        private long upper;
        private long lower;

        Share() {
            upper = 0;
            lower = 1;
        }

        void reduce(long above, long below) {
            long common = below;
            long rest = above;
            for (int k = 0; k < 100 && rest > 0; k++) {
                long next = common % rest;
                common = rest;
                rest = next;
            }
            if (common > 0) {
                upper = above / common;
                lower = below / common;
            }
        }
    }
}
