import java.io.IOException;
import java.lang.reflect.Constructor;
import java.lang.reflect.Field;
import java.lang.reflect.Member;
import java.lang.reflect.Method;
import java.lang.reflect.Modifier;
import java.nio.file.Files;
import java.nio.file.Path;
import java.util.ArrayList;
import java.util.List;
import java.util.Set;
import java.util.TreeSet;
import java.util.regex.Matcher;
import java.util.regex.Pattern;

/** The public face, and what of LANGUAGE.md can be seen from the class and its source. */
final class LanguageTest {
    private static final String FACE = """
            int row(int, int)
            int lay(int, int, int)
            int at(int, int)
            int tear(int)
            int copy(int, int, int, int, int)
            int mean(int)
            int text(int, int)
            int put(int, int, int)
            int fault(int)
            int year(int)
            int deed(int, int)
            int mark(int, int)
            int day(int, int)
            int drop(int)
            int take(int)
            int will(int)
            int undo(int)
            int keep(int)
            int on(int)
            int cost(int)
            int most()
            int rule(int)
            int plan(int, int)
            int till(int)
            int better(int)
            int least(int, int)
            int chain(int, int, int)
            int fits(int)
            int sure(int)
            int ask(int)
            int habits(int, int)
            int kinds(int, int)
            int test(int, int)
            int spare(int)
            int tempt(int)
            int odds(int, int)
            int mid(int)
            int lots(int, int)
            int asked()
            long upper()
            long lower()
            int count(int)
            int finding()
            int findings(int)
            long digest()
            """;
    private static final Set<String> CONSTANTS = Set.of("BAD", "FULL", "FINDING", "STATE", "SPENT", "NONE");
    private static final Set<String> LIBRARY = Set.of("Math.min(", "Math.max(", "Integer.bitCount(", "Arrays.fill(",
            "System.arraycopy(");
    private static final String[] RULED_OUT = {"throw", "throws", "try", "catch", "finally", "synchronized", "assert",
        "volatile", "transient", "native", "var", "yield", "protected", "package", "Object", "System\\.out", "random",
        "Thread", "hashCode", "toString", "Exact", "->", "::", "@\\w+", "Map", "HashSet", "Optional", "stream",
        "nanoTime", "currentTimeMillis"};

    public static void main(String[] args) throws IOException {
        Check c = new Check();
        face(c);
        members(c);
        source(c, bare(Files.readString(Path.of(System.getProperty("ninthday.source")))));
        c.end("LanguageTest");
    }

    private static void face(Check c) {
        Class<?> k = NinthDay.class;
        c.due("public and final", Modifier.isPublic(k.getModifiers()) && Modifier.isFinal(k.getModifiers()));
        Set<String> methods = new TreeSet<>();
        for (Method m : k.getDeclaredMethods()) {
            if (!Modifier.isPrivate(m.getModifiers())) {
                c.due(m + " is public and no more", m.getModifiers(), Modifier.PUBLIC);
                methods.add(signature(m));
            }
        }
        c.due("the face is " + methods, methods.equals(new TreeSet<>(List.of(FACE.split("\n")))));
        Constructor<?>[] constructors = k.getDeclaredConstructors();
        c.due("one constructor", constructors.length, 1);
        c.due("it is public", constructors[0].getModifiers(), Modifier.PUBLIC);
        c.due("it takes nothing", constructors[0].getParameterCount(), 0);
        Set<String> fields = new TreeSet<>();
        for (Field f : k.getDeclaredFields()) {
            if (!Modifier.isPrivate(f.getModifiers())) {
                c.due(f + " is constant", f.getModifiers(), Modifier.PUBLIC | Modifier.STATIC | Modifier.FINAL);
                c.due(f + " is an int", f.getType() == int.class);
                fields.add(f.getName());
            }
        }
        c.due("the constants are " + fields, fields.equals(CONSTANTS));
        int[] values = {NinthDay.BAD, NinthDay.FULL, NinthDay.FINDING, NinthDay.STATE, NinthDay.SPENT, NinthDay.NONE};
        int[] want = {-1, -2, -3, -4, -6, -9};
        for (int i = 0; i < values.length; i++) {
            c.due("constant " + i, values[i], want[i]);
        }
    }

    private static String signature(Method m) {
        List<String> types = new ArrayList<>();
        for (Class<?> p : m.getParameterTypes()) {
            types.add(p.getName());
        }
        return m.getReturnType().getName() + " " + m.getName() + "(" + String.join(", ", types) + ")";
    }

    private static void members(Check c) {
        Set<String> publicNames = new TreeSet<>();
        for (Method m : NinthDay.class.getDeclaredMethods()) {
            if (Modifier.isPublic(m.getModifiers())) {
                publicNames.add(m.getName());
            }
        }
        List<Class<?>> all = new ArrayList<>(List.of(NinthDay.class.getDeclaredClasses()));
        c.due("some twelve classes", all.size() + 1 <= 12);
        for (Class<?> k : all) {
            c.due(k + " is static", Modifier.isStatic(k.getModifiers()));
            c.due(k + " is not public", !Modifier.isPublic(k.getModifiers()));
        }
        all.add(NinthDay.class);
        for (Class<?> k : all) {
            int fields = 0;
            for (Field f : k.getDeclaredFields()) {
                c.due(f + " is final if it is static", !isStatic(f) || Modifier.isFinal(f.getModifiers()));
                fields += isStatic(f) ? 0 : 1;
            }
            c.due(k + " has some twenty fields", fields <= 20);
            for (Method m : k.getDeclaredMethods()) {
                c.due(m + " takes seven at most", m.getParameterCount() <= 7);
                c.due(m + " bears no public name",
                        Modifier.isPublic(m.getModifiers()) || !publicNames.contains(m.getName()));
            }
        }
    }

    private static boolean isStatic(Member m) {
        return Modifier.isStatic(m.getModifiers());
    }

    /** The source without comments. */
    private static String bare(String source) {
        return source.replaceAll("(?s)/\\*.*?\\*/", "").replaceAll("//[^\n]*", "");
    }

    private static void source(Check c, String bare) {
        for (String word : RULED_OUT) {
            String pattern = Character.isLetter(word.charAt(0)) ? "\\b" + word + "\\b" : word;
            c.due("no " + word, !Pattern.compile(pattern).matcher(bare).find());
        }
        Matcher imports = Pattern.compile("import ([^;]*);").matcher(bare);
        while (imports.find()) {
            c.due("import " + imports.group(1), imports.group(1).equals("java.util.Arrays"));
        }
        Matcher library = Pattern.compile("\\b([A-Z][a-z]\\w+)\\.([a-z]\\w*)\\(").matcher(bare);
        while (library.find()) {
            boolean isOwn = Pattern.compile("class " + library.group(1) + "\\b").matcher(bare).find();
            c.due(library.group() + " is of the library", isOwn || LIBRARY.contains(library.group(0)));
        }
        // Objects and arrays are made in constructors alone, so that no call needs room.
        Matcher methods = Pattern.compile("\n( +)((?:\\w+(?:\\[\\])? )*)(\\w+)\\([^()]*\\) \\{\n(.*?)\n\\1\\}",
                Pattern.DOTALL).matcher(bare);
        int seen = 0;
        while (methods.find()) {
            seen++;
            String name = methods.group(3);
            long lines = methods.group(4).lines().count() + 2;
            c.due(name + " is short", lines <= 60);
            boolean callsItself = Pattern.compile("(?<![.\\w])" + name + "\\(").matcher(methods.group(4)).find();
            c.due(name + " may call itself", !callsItself || methods.group(2).startsWith("private static "));
            boolean isConstructor = Character.isUpperCase(name.charAt(0));
            c.due(name + " makes nothing", isConstructor || !methods.group(4).contains("new "));
        }
        c.due("methods were seen: " + seen, seen > 100);
    }
}
