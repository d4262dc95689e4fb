import java.lang.reflect.InvocationTargetException;
import java.lang.reflect.Method;
import java.util.Arrays;
import java.util.List;
import java.util.Map;
import java.util.regex.Matcher;
import java.util.regex.Pattern;

/**
 * Tests of the boundary cases that the document names: each sentence on a new object of its own,
 * then calls, a line each, with what is due.
 * <pre>
 * row(0, 41) = BAD           an answer; NOTHING .. SIZE: FINDING, and finding() tells that one
 * most() = 2 : 7             and what asked() tells behind it
 * odds(1, 3) = 1 : 15/16     and what upper(), lower() tell
 * 39 x day(0, 0) = 0         a call again and again
 * text 1 'w409 d999'         a TEXT, by text() and put()
 * year w409 d999             TEXT 0 likewise, and a YEAR by it
 * row 2 1 4 3 6              a ROW, by row() and lay()
 * </pre>
 * Numbers of answers stand here as the document tells them, not as NinthDay's constants do.
 * Behind each call all is looked at that it has to leave as it was, so that a refused call that
 * changes something is seen wherever it stands.
 */
final class Edges {
    private static final Pattern CALL =
            Pattern.compile("(?:(\\d+) x )?(\\w+)\\(([^)]*)\\) = (-?\\w+)((?: : \\S+)*)");
    private static final List<String> FINDINGS = List.of("", "NOTHING", "BEYOND", "UNLIKE", "NOUGHT", "SIZE");
    private static final int BAD = -1, FINDING = -3, NONE = -9;
    private static final Map<String, Integer> REFUSED = Map.of("BAD", BAD, "FULL", -2, "STATE", -4, "SPENT", -6);
    private static final List<String> TELLING = List.of("lay", "at", "mean", "deed", "most", "rule", "till", "better",
            "chain", "fits", "sure", "ask", "habits", "test", "spare");
    private static final List<String> SHARING = List.of("fits", "odds", "mid");
    private static final List<String> CHANGING = List.of("row", "lay", "tear", "copy", "text", "put", "year", "day",
            "drop", "take", "will", "undo", "keep", "on", "plan", "lots");

    /** All that is told beside a call's answer. */
    private record Told(long digest, int asked, long upper, long lower, int finding, List<Integer> findings) {
        static Told by(NinthDay x) {
            return new Told(x.digest(), x.asked(), x.upper(), x.lower(), x.finding(),
                    List.of(x.findings(1), x.findings(2), x.findings(3), x.findings(4), x.findings(5)));
        }
    }

    private final Check check = new Check();
    private int sentences;
    private String sentence;
    private NinthDay x;

    void edge(String itsSentence, String... calls) {
        sentences++;
        sentence = itsSentence;
        begin(String.join("\n", calls));
    }

    /** A number of a call ('_'): the least and the greatest are taken, one below and one above are BAD. */
    void range(String ahead, String call, int least, int greatest) {
        sentences++;
        sentence = call + ", from " + least + " to " + greatest;
        for (int taken : new int[] {least, greatest}) {
            begin(ahead);
            String line = call.replace("_", String.valueOf(taken));
            Matcher m = matched(line + " = 0");
            check.due(sentence + ": " + line + " is taken", answer(m.group(2), m.group(3)) != BAD);
        }
        for (long bad : new long[] {least - 1L, greatest + 1L, Integer.MIN_VALUE, Integer.MAX_VALUE}) {
            begin(ahead);
            line(call.replace("_", String.valueOf(bad)) + " = BAD");
        }
    }

    /** A constant of the face, as the class itself has it. */
    void constant(String name, int due) {
        sentences++;
        try {
            check.due("the constant " + name, NinthDay.class.getField(name).getInt(null), due);
        } catch (ReflectiveOperationException none) {
            check.due("the constant " + name + " is there", false);
        }
    }

    void end(String name) {
        check.end(name + ": " + sentences + " sentences");
    }

    private void begin(String calls) {
        x = new NinthDay();
        calls.lines().map(String::strip).filter(line -> !line.isEmpty()).forEach(this::line);
    }

    private void line(String line) {
        if (line.startsWith("text ")) {
            Check.write(x, line.charAt(5) - '0', bare(line.substring(7)));
        } else if (line.startsWith("year ")) {
            Check.write(x, 0, bare(line.substring(5)));
            check.due(sentence + ": " + line + " is taken", x.year(0) > 0);
        } else if (line.startsWith("row ")) {
            int[] numbers = numbers(line.substring(4), " ");
            Check.fill(x, numbers[0], Arrays.copyOfRange(numbers, 1, numbers.length));
        } else {
            Matcher m = matched(line);
            int times = m.group(1) == null ? 1 : Integer.parseInt(m.group(1));
            for (int k = 0; k < times; k++) {
                call(m);
            }
        }
    }

    private static String bare(String quoted) {
        return quoted.startsWith("'") ? quoted.substring(1, quoted.length() - 1) : quoted;
    }

    private static Matcher matched(String line) {
        Matcher m = CALL.matcher(line);
        if (!m.matches()) {
            throw new IllegalArgumentException("no call: " + line);
        }
        return m;
    }

    private static int[] numbers(String list, String between) {
        return list.isEmpty() ? new int[0] : Arrays.stream(list.split(between)).mapToInt(Edges::number).toArray();
    }

    private static int number(String word) {
        return switch (word) {
            case "LOW" -> Integer.MIN_VALUE;
            case "HIGH" -> Integer.MAX_VALUE;
            case "NONE" -> NONE;
            default -> Integer.parseInt(word);
        };
    }

    private void call(Matcher m) {
        String want = m.group(4);
        String name = sentence + ": " + m.group();
        int finding = FINDINGS.indexOf(want);
        Told before = Told.by(x);
        long got = answer(m.group(2), m.group(3));
        Told after = Told.by(x);
        boolean isRefused = finding > 0 || REFUSED.containsKey(want);
        check.due(name, got, finding > 0 ? FINDING : isRefused ? REFUSED.get(want) : longNumber(want));
        findings(name, finding, before, after);
        boolean isTold = !isRefused && !want.equals("NONE");
        stays(name, m.group(2), isTold, before, after);
        for (String told : m.group(5).split(" : ")) {
            told(name, told);
        }
    }

    /** digest() alone answers more than an int. */
    private static long longNumber(String word) {
        return word.matches("-?\\d+") ? Long.parseLong(word) : number(word);
    }

    private void findings(String name, int finding, Told before, Told after) {
        check.due(name + ", finding()", after.finding, finding > 0 ? finding : before.finding);
        for (int f = 1; f <= 5; f++) {
            int more = f == finding ? 1 : 0;
            check.due(name + ", findings(" + f + ")", after.findings.get(f - 1), before.findings.get(f - 1) + more);
        }
    }

    private void stays(String name, String call, boolean isTold, Told before, Told after) {
        if (!isTold || !TELLING.contains(call)) {
            check.due(name + ", asked() as it was", after.asked, before.asked);
        }
        if (!isTold || !SHARING.contains(call)) {
            check.due(name + ", upper() as it was", after.upper, before.upper);
            check.due(name + ", lower() as it was", after.lower, before.lower);
        }
        if (!isTold || !CHANGING.contains(call)) {
            check.due(name + ", digest() as it was", after.digest, before.digest);
        }
    }

    private void told(String name, String told) {
        if (told.contains("/")) {
            String[] both = told.split("/");
            check.due(name + ", upper()", x.upper(), Long.parseLong(both[0]));
            check.due(name + ", lower()", x.lower(), Long.parseLong(both[1]));
        } else if (!told.isEmpty()) {
            check.due(name + ", asked()", x.asked(), number(told));
        }
    }

    private long answer(String name, String list) {
        int[] given = numbers(list, ", ");
        Class<?>[] ints = new Class<?>[given.length];
        Arrays.fill(ints, int.class);
        try {
            Method method = NinthDay.class.getMethod(name, ints);
            return ((Number) method.invoke(x, Arrays.stream(given).boxed().toArray())).longValue();
        } catch (InvocationTargetException thrown) {
            check.due(sentence + ": " + name + "(" + list + ") threw " + thrown.getCause(), false);
            return Long.MIN_VALUE;
        } catch (ReflectiveOperationException none) {
            throw new IllegalArgumentException("no call: " + name + "(" + list + ")", none);
        }
    }
}
