import java.io.File;
import java.io.IOException;
import java.lang.reflect.Method;
import java.lang.reflect.Modifier;
import java.nio.file.Files;
import java.nio.file.Path;
import java.util.regex.Matcher;
import java.util.regex.Pattern;
import java.util.stream.Stream;

/** That what README.md says holds: its program compiles, and prints what stands there. */
final class ReadmeTest {
    private static final String PROGRAM = "FirstOfJanuary";

    public static void main(String[] args) throws IOException, InterruptedException {
        Check c = new Check();
        Path main = Path.of(System.getProperty("ninthday.source")).toRealPath();
        Path root = main.getParent().getParent().getParent().getParent();
        String readme = Files.readString(root.resolve("README.md"));
        c.due("the way to run the tests", block(readme, "sh", 1).equals(".ci/run\n"));
        c.due("that way is there", Files.isExecutable(root.resolve(".ci/run")));
        program(c, main, block(readme, "java", 0), block(readme, "text", 0));
        tests(c, root, readme);
        c.end("ReadmeTest");
    }

    /** The contents of block number n (0 ..) of a language. */
    private static String block(String readme, String language, int n) {
        Matcher m = Pattern.compile("```" + language + "\n(.*?)```", Pattern.DOTALL).matcher(readme);
        for (int k = 0; m.find(); k++) {
            if (k == n) {
                return m.group(1);
            }
        }
        return "";
    }

    private static void program(Check c, Path main, String source, String prints)
            throws IOException, InterruptedException {
        Path dir = Files.createTempDirectory("readme");
        Path file = Files.writeString(dir.resolve(PROGRAM + ".java"), source);
        String classes = dir.resolve("out").toString();
        c.due("it compiles", run("javac", "-d", classes, main.toString(), file.toString()).isEmpty());
        String printed = run("java", "-cp", classes, PROGRAM);
        c.due("it prints " + printed, !prints.isEmpty() && printed.equals(prints));
        remove(dir.toFile());
    }

    private static String run(String tool, String... arguments) throws IOException, InterruptedException {
        ProcessBuilder builder = new ProcessBuilder(arguments);
        builder.command().add(0, Path.of(System.getProperty("java.home"), "bin", tool).toString());
        Process process = builder.redirectErrorStream(true).start();
        String printed = new String(process.getInputStream().readAllBytes());
        process.waitFor();
        return printed;
    }

    private static void remove(File file) {
        File[] inside = file.listFiles();
        for (File f : inside == null ? new File[0] : inside) {
            remove(f);
        }
        file.delete();
    }

    /** Each test has its line in the table, and each call is named. */
    private static void tests(Check c, Path root, String readme) throws IOException {
        try (Stream<Path> files = Files.list(root.resolve("src/test/java"))) {
            for (Path file : files.toList()) {
                String name = file.getFileName().toString().replace(".java", "");
                boolean isTest = name.endsWith("Test") && !name.startsWith("EdgesOf");
                c.due(name + " has a line", !isTest || readme.contains("\n| " + name + " |"));
            }
        }
        for (Method m : NinthDay.class.getDeclaredMethods()) {
            boolean isPublic = Modifier.isPublic(m.getModifiers());
            c.due(m.getName() + " is named", !isPublic || readme.contains("`" + m.getName() + "`"));
        }
    }
}
