import java.lang.reflect.InvocationTargetException;
import java.lang.reflect.Method;
import java.util.ArrayList;
import java.util.List;
import java.util.Random;

/**
 * All promises: long runs of calls by chance, the same each time, on NinthDay and on Slow; each
 * answer, and all that is told behind it, must be the same, and nothing may be thrown.
 */
final class RandomTest {
    private static final int RUNS = 400, CALLS = 512;
    private static final int[] WILD = {Integer.MIN_VALUE, Integer.MIN_VALUE + 1, -1000, -2, -1, 0, 1, 31, 32, 33, 40,
        41, 60, 61, 99, 100, 1000, 1 << 16, 1 << 30, Integer.MAX_VALUE - 1, Integer.MAX_VALUE};

    /** A call with what its numbers range over (both ends in), how often it comes, and its two methods. */
    private record Call(String name, int often, int[] ranges, Method fast, Method slow) { }

    private static final List<Call> CALLS_BY_CHANCE = new ArrayList<>();

    private static void call(String name, int often, int... ranges) throws NoSuchMethodException {
        Class<?>[] ints = new Class<?>[ranges.length / 2];
        java.util.Arrays.fill(ints, int.class);
        Call c = new Call(name, often, ranges, NinthDay.class.getMethod(name, ints),
                Slow.class.getDeclaredMethod(name, ints));
        for (int k = 0; k < often; k++) {
            CALLS_BY_CHANCE.add(c);
        }
    }

    private static void calls() throws NoSuchMethodException {
        call("row", 4, 0, 5, -1, 41);
        call("lay", 8, 0, 5, -1, 6, -3, 30);
        call("at", 3, 0, 5, -1, 8);
        call("tear", 1, 0, 5);
        call("copy", 6, 0, 5, -1, 6, 0, 5, -1, 6, -1, 6);
        call("mean", 2, 0, 5);
        call("text", 2, 0, 3, -1, 61);
        call("put", 6, 0, 3, -1, 40, -300, 300);
        call("fault", 4, 0, 3);
        call("year", 1, 0, 3);
        call("deed", 4, 0, 4, 0, 7);
        call("mark", 8, 0, 4, 0, 5);
        call("day", 14, 0, 31, 0, 31);
        call("drop", 4, 0, 4);
        call("take", 4, 0, 4);
        call("will", 3, 0, 40);
        call("undo", 2, 0, 40);
        call("keep", 2, 0, 2);
        call("on", 2, 0, 2);
        call("cost", 4, 0, 31);
        call("most", 6);
        call("rule", 8, 0, 3);
        call("plan", 3, 0, 2, 0, 5);
        call("till", 4, 0, 3);
        call("better", 3, 0, 60);
        call("least", 4, 0, 4, 0, 30);
        call("chain", 4, 0, 4, 0, 60, 0, 3);
        call("fits", 5, 0, 20);
        call("sure", 5, 0, 20);
        call("ask", 5, 0, 20);
        call("habits", 3, 0, 4, 0, 5);
        call("kinds", 3, 0, 4, 0, 5);
        call("test", 3, 0, 4, 0, 5);
        call("spare", 4, 0, 5);
        call("tempt", 5, 0, 5);
        call("odds", 5, 0, 5, 0, 12);
        call("mid", 5, 0, 12);
        call("lots", 2, 1, 20, 1, 2147483646);
        call("count", 4, -1, 11);
        call("findings", 2, 0, 6);
    }

    private final Random random;
    private final NinthDay fast = new NinthDay();
    private final Slow slow = new Slow();
    private final StringBuilder said = new StringBuilder();
    private final Check check;
    private boolean isRight = true;

    private RandomTest(long seed, Check check) {
        random = new Random(seed);
        this.check = check;
    }

    public static void main(String[] args) throws ReflectiveOperationException {
        calls();
        Check c = new Check();
        for (int run = 0; run < RUNS; run++) {
            new RandomTest(run, c).run(run);
        }
        c.end("RandomTest");
    }

    private void run(int number) throws ReflectiveOperationException {
        for (int k = 0; k < CALLS && isRight; k++) {
            int what = random.nextInt(100);
            if (what == 0 || k == 0 || k == 40) {
                writeYear();
            } else if (what < 4) {
                writePairs();
            } else if (what < 14) {
                dayInReach();
            } else if (what < 15 && number % 20 == 0) {
                same(named("plan"), 3, random.nextInt(6));
            } else {
                Call c = CALLS_BY_CHANCE.get(random.nextInt(CALLS_BY_CHANCE.size()));
                same(c, numbers(c));
            }
        }
    }

    private int[] numbers(Call c) {
        int[] numbers = new int[c.ranges.length / 2];
        for (int k = 0; k < numbers.length; k++) {
            long low = c.ranges[2 * k];
            long span = c.ranges[2 * k + 1] - low + 1;
            numbers[k] = random.nextInt(50) == 0 ? WILD[random.nextInt(WILD.length)]
                    : (int) (low + (random.nextLong() >>> 1) % span);
        }
        return numbers;
    }

    private static Call named(String name) {
        return CALLS_BY_CHANCE.stream().filter(c -> c.name.equals(name)).findFirst().orElseThrow();
    }

    /** One call on both, and all that is told behind it. */
    private int same(Call c, int... numbers) throws ReflectiveOperationException {
        Object[] given = java.util.Arrays.stream(numbers).boxed().toArray();
        said.append(c.name).append(java.util.Arrays.toString(numbers)).append(' ');
        int got = answer(c.fast, fast, given);
        int want = answer(c.slow, slow, given);
        boolean alike = got == want && fast.asked() == slow.asked() && fast.upper() == slow.upper()
                && fast.lower() == slow.lower() && fast.finding() == slow.finding() && sameFindings()
                && fast.digest() == slow.digest();
        check.due("a run of calls: " + (alike ? "" : said) + " (" + got + " for " + want + ")", alike);
        isRight &= alike;
        return got;
    }

    private boolean sameFindings() {
        boolean alike = true;
        for (int f = 1; f <= 5; f++) {
            alike &= fast.findings(f) == slow.findings(f);
        }
        return alike;
    }

    private static int answer(Method m, Object on, Object[] numbers) throws ReflectiveOperationException {
        m.setAccessible(true);
        try {
            return (Integer) m.invoke(on, numbers);
        } catch (InvocationTargetException thrown) {
            System.out.println(m.getName() + " threw " + thrown.getCause());
            return 12345678;
        }
    }

    private void writeYear() throws ReflectiveOperationException {
        StringBuilder s = new StringBuilder(blanks()).append('w');
        int will = random.nextInt(3) == 0 ? random.nextInt(44) : random.nextInt(16);
        s.append(will / 10).append(will % 10).append(random.nextInt(10));
        int deeds = 1 + random.nextInt(random.nextInt(8) == 0 ? 6 : 5);
        for (int k = 0; k < deeds; k++) {
            s.append(blanks()).append("drsmhf".charAt(random.nextInt(6)));
            s.append(random.nextInt(10)).append(random.nextInt(random.nextBoolean() ? 10 : 4));
            s.append(random.nextInt(10));
        }
        s.append(blanks());
        if (random.nextInt(4) == 0) {
            spoil(s);
        }
        s.setLength(Math.min(60, s.length()));
        int t = random.nextInt(4);
        same(named("text"), t, s.length());
        for (int i = 0; i < s.length(); i++) {
            if (s.charAt(i) != ' ') {
                same(named("put"), t, i, s.charAt(i));
            }
        }
        same(named("fault"), t);
        same(named("year"), t);
    }

    private void spoil(StringBuilder s) {
        int at = random.nextInt(s.length());
        switch (random.nextInt(4)) {
            case 0 -> s.setLength(at);
            case 1 -> s.insert(at, ' ');
            case 2 -> s.deleteCharAt(at);
            default -> s.setCharAt(at, (char) random.nextInt(256));
        }
    }

    private String blanks() {
        return " ".repeat(random.nextInt(3) == 0 ? random.nextInt(4) : 0);
    }

    /** Pairs that a deed could have cost, now and then one of them another one. */
    private void writePairs() throws ReflectiveOperationException {
        int r = random.nextInt(6);
        int n = random.nextInt(4);
        same(named("row"), r, 2 * n);
        int i = random.nextInt(5);
        int kind = random.nextInt(3) == 0 ? random.nextInt(6) : Check.trait(fast, i, 0);
        same(named("deed"), i, 1);
        Slow.Deed d = Slow.Deed.made(Math.floorMod(kind, 6), Math.floorMod(Check.trait(fast, i, 1), 10),
                Math.floorMod(Check.trait(fast, i, 2), 10), Math.floorMod(Check.trait(fast, i, 3), 10));
        for (int k = 0; k < n; k++) {
            int day = 1 + random.nextInt(42);
            same(named("lay"), r, 2 * k, day);
            same(named("lay"), r, 2 * k + 1, d.costs(day) + (random.nextInt(12) == 0 ? 1 : 0));
        }
        same(named("habits"), i, r);
        same(named("kinds"), i, r);
        same(named("test"), i, r);
    }

    private void dayInReach() throws ReflectiveOperationException {
        int set = Math.max(0, same(named("rule"), random.nextInt(4)));
        int off = fast.count(4) > 0 && random.nextInt(3) == 0 ? ~set & fast.count(5) & random.nextInt(32) : 0;
        same(named("day"), set, off);
    }
}
