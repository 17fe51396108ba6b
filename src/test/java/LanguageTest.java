import java.io.IOException;
import java.lang.reflect.Constructor;
import java.lang.reflect.Field;
import java.lang.reflect.Method;
import java.lang.reflect.Modifier;
import java.nio.charset.StandardCharsets;
import java.nio.file.Files;
import java.nio.file.Path;
import java.util.Arrays;
import java.util.Set;
import java.util.TreeSet;
import java.util.regex.Matcher;
import java.util.regex.Pattern;

/** The rules of LANGUAGE.md that can be seen from outside or by plain reading, and the document's face. */
public final class LanguageTest {
    private static final Due due = new Due("LANGUAGE.md");
    private static final String[] FACE = {
        "int like(int,int,int)", "int set(int,int,int)", "int asker(int,int)", "int told(int,int)", "int asks(int,int,int)",
        "int glad(int,int)", "int feed(int)", "int text()", "int force(int)", "int ask(int,int)", "int day()",
        "int row(int,int,int)", "int rows(int,int)", "int leave(int,int,int)", "int gladdest(int,int)", "int get(int,int,int)",
        "int map(int)", "int net(int)", "long share(int,int)", "int tells(int,int,int)", "int film(int,int)",
        "int drawn(int,int,int)", "long chance(int,int,int,int,int)", "int image()", "int back()", "int count(int)",
        "int sheet(int,int,int)", "int cell(int,int,int)", "int copy(int,int,int,int,int)", "int askers(int,int,int,int)",
        "int taken(int,int)"};

    public static void main(String[] args) throws IOException {
        due.sentence("1: the face");
        face();
        due.sentence("2, 3, 5, 6, 11: classes, fields and methods");
        for (Class<?> c : WellGivesOther.class.getDeclaredClasses()) inside(c);
        due.isTrue("twelve classes at most", WellGivesOther.class.getDeclaredClasses().length < 12);
        members(WellGivesOther.class);
        due.sentence("3, 4, 6, 11: what the file says");
        String source = Files.readString(Path.of("src/main/java/WellGivesOther.java"), StandardCharsets.ISO_8859_1);
        words(source);
        lengths(source);
        due.end();
    }

    private static void face() {
        Class<?> c = WellGivesOther.class;
        due.isTrue("public final", Modifier.isPublic(c.getModifiers()) && Modifier.isFinal(c.getModifiers()));
        Set<String> seen = new TreeSet<>();
        for (Method m : c.getDeclaredMethods()) {
            if (!Modifier.isPrivate(m.getModifiers())) seen.add(signature(m));
        }
        due.isTrue("the methods of the face: " + seen, seen.equals(new TreeSet<>(Arrays.asList(FACE))));
        Constructor<?>[] made = c.getDeclaredConstructors();
        due.isTrue("one constructor", made.length == 1 && Modifier.isPublic(made[0].getModifiers())
            && made[0].getParameterCount() == 0);
        Set<String> constants = new TreeSet<>();
        for (Field f : c.getDeclaredFields()) if (!Modifier.isPrivate(f.getModifiers())) constants.add(f.toString());
        String p = "public static final ";
        due.isTrue("the constants: " + constants, constants.equals(new TreeSet<>(Arrays.asList(
            p + "int WellGivesOther.NONE", p + "int WellGivesOther.BAD", p + "int WellGivesOther.STATE",
            p + "int WellGivesOther.FULL", p + "long WellGivesOther.NO"))));
        due.is("NONE", -1, WellGivesOther.NONE);
        due.is("BAD", -2, WellGivesOther.BAD);
        due.is("STATE", -3, WellGivesOther.STATE);
        due.is("FULL", -4, WellGivesOther.FULL);
        due.is("NO", -4611686018427387904L, WellGivesOther.NO);
    }

    private static String signature(Method m) {
        StringBuilder s = new StringBuilder(m.getReturnType() + " " + m.getName() + "(");
        for (Class<?> p : m.getParameterTypes()) s.append(s.charAt(s.length() - 1) == '(' ? "" : ",").append(p);
        return s.append(")").toString();
    }

    private static void inside(Class<?> c) {
        due.isTrue(c + " static", Modifier.isStatic(c.getModifiers()));
        due.isTrue(c + " not public", !Modifier.isPublic(c.getModifiers()) && !Modifier.isProtected(c.getModifiers()));
        members(c);
        for (Method m : c.getDeclaredMethods()) named(m);
    }

    private static void members(Class<?> c) {
        int fields = 0;
        for (Field f : c.getDeclaredFields()) {
            due.isTrue(f + " is static, so final", !Modifier.isStatic(f.getModifiers()) || Modifier.isFinal(f.getModifiers()));
            due.isTrue(f + " is no row of texts", f.getType() != String[].class);
            if (!Modifier.isStatic(f.getModifiers())) fields++;
        }
        due.isTrue(c + " twenty fields at most", fields <= 20);
        for (Method m : c.getDeclaredMethods()) {
            due.isTrue(m + " seven parameters at most", m.getParameterCount() <= 7);
            if (Modifier.isPrivate(m.getModifiers())) named(m);
        }
    }

    private static void named(Method m) {
        for (String f : FACE) due.isTrue(m + " has a name of its own", !f.contains(" " + m.getName() + "("));
        due.isTrue(m + " is none of Object's", !m.getName().matches("equals|hashCode|toString"));
    }

    private static void words(String source) {
        String bare = source.replaceAll("(?s)/\\*.*?\\*/", " ").replaceAll("//[^\n]*", " ");
        for (char c : source.toCharArray()) due.isTrue("a sign of 1 to 127", c > 0 && c < 128);
        Matcher m = Pattern.compile("\\b(import|package|throw|throws|try|catch|synchronized|assert|protected|native|transient"
            + "|volatile|yield|var|double|float|System\\.(?!arraycopy)[a-z]+|Object|Thread|[a-z]+Exact|[A-Za-z]+Exception)\\b"
            + "|->|::|@|\"\\s*\\+|\\+\\s*\"").matcher(bare);
        while (m.find()) due.isTrue("no [" + m.group() + "]", false);
        m = Pattern.compile("\\b(public|private)\\b").matcher(bare);
        due.isTrue("one file, one public class", bare.split("public (final )?(class|interface|enum|record)\\b").length == 2);
        due.isTrue("members are marked", m.find());
    }

    /** A method begins behind 4 or 8 blanks and ends with a brace behind as many. */
    private static void lengths(String source) {
        String[] lines = source.split("\n");
        for (int i = 0; i < lines.length; i++) {
            Matcher m = Pattern.compile("^( {4}| {8})(?! )[^=;]*\\) \\{$").matcher(lines[i]);
            if (!m.find()) continue;
            int end = i;
            while (end < lines.length && !lines[end].equals(m.group(1) + "}")) end++;
            due.isTrue("short: " + lines[i].trim(), end - i < 60);
        }
    }
}
