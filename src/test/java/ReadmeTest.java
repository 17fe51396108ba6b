import java.io.File;
import java.io.IOException;
import java.lang.reflect.Field;
import java.lang.reflect.Method;
import java.lang.reflect.Modifier;
import java.net.URL;
import java.net.URLClassLoader;
import java.nio.charset.StandardCharsets;
import java.nio.file.Files;
import java.nio.file.Path;
import java.util.ArrayList;
import java.util.List;
import java.util.regex.Matcher;
import java.util.regex.Pattern;
import javax.tools.ToolProvider;

/**
 * README.md: its example is compiled and run as it stands there, and each answer held to the number behind its //;
 * each call, constant and test of the project stands on the page.
 */
public final class ReadmeTest {
    private static final Due due = new Due("README.md");
    private static final Path PAGE = Path.of("README.md"), TESTS = Path.of("src/test/java");
    private static final Pattern ANSWERED = Pattern.compile("(?:(?:int|long) (\\w+) = )?(well\\.\\w+\\(.*\\));\\s*// (-?\\d+)\\b.*");
    private static final Pattern UNANSWERED = Pattern.compile("|//.*|WellGivesOther well = new WellGivesOther\\(\\);|for \\(.*\\) well\\.feed\\(letter\\);");

    private static final List<String> calls = new ArrayList<>();
    private static final List<Long> wanted = new ArrayList<>();

    public static void main(String[] args) throws Exception {
        String page = Files.readString(PAGE, StandardCharsets.UTF_8);
        example(page);
        theCalls(page);
        theConstants(page);
        theTests(page);
        due.end();
    }

    private static void example(String page) throws Exception {
        due.sentence("a short example whose answers are right");
        Matcher block = Pattern.compile("(?s)\n```java\n(.*?)\n```\n").matcher(page);
        boolean there = block.find();
        due.isTrue("there is an example", there);
        if (!there) return;
        long[] got = run(program(block.group(1)));
        due.isTrue("it tells answers", got.length > 20);
        for (int i = 0; i < got.length; i++) due.is(calls.get(i), wanted.get(i), got[i]);
        due.isTrue("there is one example", !block.find());
    }

    /** The example as a class whose answers() are those that it tells. */
    private static String program(String example) {
        StringBuilder made = new StringBuilder();
        for (String line : example.split("\n")) {
            Matcher m = ANSWERED.matcher(line);
            if (!m.matches()) {
                due.isTrue("an answer stands behind: " + line, UNANSWERED.matcher(line).matches());
                made.append(line).append('\n');
                continue;
            }
            String told = m.group(2);
            if (m.group(1) != null) {
                made.append(line).append('\n');
                told = m.group(1);
            }
            made.append("got[").append(calls.size()).append("] = ").append(told).append(";\n");
            calls.add(m.group(2));
            wanted.add(Long.parseLong(m.group(3)));
        }
        return "public final class ReadmeExample {\npublic static long[] answers() {\nlong[] got = new long[" + calls.size() + "];\n"
            + made + "return got;\n}\n}\n";
    }

    private static long[] run(String program) throws Exception {
        Path folder = Files.createTempDirectory("readme");
        Path source = folder.resolve("ReadmeExample.java");
        Path made = folder.resolve("ReadmeExample.class");
        try {
            Files.writeString(source, program);
            int failed = ToolProvider.getSystemJavaCompiler().run(null, null, null,
                "-cp", System.getProperty("java.class.path"), "-d", folder.toString(), source.toString());
            due.is("javac of the example", 0, failed);
            if (failed != 0) return new long[0];
            try (URLClassLoader loader = new URLClassLoader(new URL[] {folder.toUri().toURL()})) {
                return (long[]) loader.loadClass("ReadmeExample").getMethod("answers").invoke(null);
            }
        } finally {
            Files.deleteIfExists(source);
            Files.deleteIfExists(made);
            Files.deleteIfExists(folder);
        }
    }

    private static void theCalls(String page) {
        due.sentence("what each of its calls is for");
        int calls = 0;
        for (Method m : WellGivesOther.class.getDeclaredMethods()) {
            if (!Modifier.isPublic(m.getModifiers())) continue;
            calls++;
            Matcher row = Pattern.compile("\n\\| `" + m.getName() + "\\(([^)]*)\\)` \\| [^|]+ \\| ([^|]+) \\|(?=\n)").matcher(page);
            boolean told = row.find();
            due.isTrue(m.getName() + " has a row", told);
            if (!told) continue;
            String parameters = row.group(1);
            due.is(m.getName() + ", how many parameters", m.getParameterCount(), parameters.isEmpty() ? 0 : parameters.split(", ").length);
            due.isTrue(m.getName() + " has one row", !row.find());
        }
        due.is("how many rows", calls, rows(page, "\n\\| `\\w+\\("));
    }

    private static void theConstants(String page) throws IllegalAccessException {
        due.sentence("how a refusal is answered");
        for (Field f : WellGivesOther.class.getDeclaredFields()) {
            if (!Modifier.isPublic(f.getModifiers())) continue;
            String row = "\n| " + f.get(null) + " | `" + f.getName() + "` |";
            due.isTrue(f.getName() + " with what it is", page.contains(row));
        }
        for (int host = -14; host <= -11; host++) due.isTrue(host + " is told", page.contains("\n| " + host + " | |"));
        due.isTrue("-1000 is told", page.contains("\n| -1000 |"));
        due.isTrue("-1011, -1002 are told", page.contains("\n| -1011, -1002 |"));
        due.isTrue("-2000 is told", page.contains("\n| -2000 |"));
    }

    private static void theTests(String page) throws IOException {
        due.sentence("how to run its tests");
        due.isTrue("the script", page.contains("\n    bash .ci/run\n") && Files.isExecutable(Path.of(".ci/run")));
        for (int promise = 1; promise <= 32; promise++) {
            String name = String.format("Promise%02dTest.java", promise);
            due.isTrue(name + " is there", Files.exists(TESTS.resolve(name)));
        }
        for (File file : TESTS.toFile().listFiles()) {
            String name = file.getName().replace(".java", "");
            if (name.endsWith("Test") && !name.startsWith("Promise")) due.isTrue(name + " has a row", page.contains("\n| " + name + " |"));
        }
    }

    private static int rows(String page, String beginning) {
        Matcher row = Pattern.compile(beginning).matcher(page);
        int n = 0;
        while (row.find()) n++;
        return n;
    }
}
