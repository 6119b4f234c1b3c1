import java.lang.reflect.Method;
import java.lang.reflect.Modifier;
import java.nio.file.Files;
import java.nio.file.Path;
import java.util.Set;
import java.util.TreeSet;
import java.util.regex.Matcher;
import java.util.regex.Pattern;
import java.util.stream.Stream;

/** README.md: each row answers what stands behind it, each call of the face has a row, each test is named. */
public final class ReadmeTest {
    private static final Pattern MADE = Pattern.compile("BalanceRoom room = new BalanceRoom\\(\\);");
    private static final Pattern WRITTEN =
            Pattern.compile("for \\(char letter : \"([^\"]*)\"\\.toCharArray\\(\\)\\) room\\.write\\(letter\\);");
    private static final Pattern CALLED = Pattern.compile("room\\.(\\w+)\\(([^)]*)\\); +// (-?\\d+)[:,] .*");

    private static final Set<String> called = new TreeSet<>();
    private static BalanceRoom room = null;
    private static int wrong = 0;

    private static void fails(String what) {
        wrong++;
        System.out.println("README.md: " + what);
    }

    private static Set<String> face() {
        Set<String> names = new TreeSet<>();
        for (Method m : BalanceRoom.class.getDeclaredMethods()) if (Modifier.isPublic(m.getModifiers())) names.add(m.getName());
        return names;
    }

    private static Method method(String name) {
        for (Method m : BalanceRoom.class.getDeclaredMethods()) {
            if (Modifier.isPublic(m.getModifiers()) && m.getName().equals(name)) return m;
        }
        return null;
    }

    /** What is written in the row, as Java would read it; null: it is not of that type. */
    private static Object argument(Class<?> type, String written) {
        if (type == boolean.class) return written.matches("true|false") ? Boolean.valueOf(written) : null;
        if (type == long.class) return written.matches("-?\\d+L") ? Long.valueOf(written.replace("L", "")) : null;
        if (written.matches("'.'")) return (int) written.charAt(1);
        return written.matches("-?\\d+") ? Integer.valueOf(written) : null;
    }

    private static void call(String row, String name, String[] written, long due) throws Exception {
        Method m = method(name);
        if (m == null || m.getParameterCount() != written.length) {
            fails("there is no such call: " + row);
            return;
        }
        Object[] arguments = new Object[written.length];
        for (int i = 0; i < written.length; i++) {
            arguments[i] = argument(m.getParameterTypes()[i], written[i]);
            if (arguments[i] == null) {
                fails("not as the face has it: " + row);
                return;
            }
        }
        called.add(name);
        long got = ((Number) m.invoke(room, arguments)).longValue();
        if (got != due) fails("answered " + got + ": " + row);
    }

    private static void row(String row) throws Exception {
        Matcher written = WRITTEN.matcher(row);
        Matcher asked = CALLED.matcher(row);
        if (MADE.matcher(row).matches()) {
            room = new BalanceRoom();
        } else if (written.matches()) {
            for (char letter : written.group(1).toCharArray()) room.write(letter);
        } else if (asked.matches()) {
            String list = asked.group(2);
            call(row, asked.group(1), list.isEmpty() ? new String[0] : list.split(", "), Long.parseLong(asked.group(3)));
        } else {
            fails("a row that can't be tested: " + row);
        }
    }

    private static void rows(String page) throws Exception {
        boolean inside = false;
        for (String line : page.split("\n")) {
            if (line.startsWith("```")) inside = line.equals("```java");
            else if (inside && !line.isBlank()) row(line);
        }
        if (!called.equals(face())) fails("has rows of " + called + ", the face is " + face());
    }

    private static void testsNamed(String page) throws Exception {
        try (Stream<Path> files = Files.list(Path.of("src/test/java"))) {
            for (Path file : files.toList()) {
                String name = file.getFileName().toString().replace(".java", "");
                if (name.endsWith("Test") && !page.contains("`" + name + "`")) fails("does not name " + name);
            }
        }
        if (!page.contains("bash .ci/run")) fails("does not say how to run the tests");
    }

    public static void main(String[] args) throws Exception {
        String page = Files.readString(Path.of("README.md"));
        rows(page);
        testsNamed(page);
        System.out.println(wrong == 0 ? "README.md is as it is" : wrong + " things in README.md are not so");
        if (wrong != 0) System.exit(1);
    }
}
