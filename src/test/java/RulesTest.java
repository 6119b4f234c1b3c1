import java.lang.management.ManagementFactory;
import java.lang.reflect.Array;
import java.lang.reflect.Constructor;
import java.lang.reflect.Field;
import java.lang.reflect.Method;
import java.lang.reflect.Modifier;
import java.nio.file.Files;
import java.nio.file.Path;
import java.util.ArrayList;
import java.util.Arrays;
import java.util.Collections;
import java.util.IdentityHashMap;
import java.util.List;
import java.util.Map;
import java.util.Set;
import java.util.TreeMap;
import java.util.TreeSet;
import java.util.regex.Matcher;
import java.util.regex.Pattern;

/** The face as the document tells it, the rules of LANGUAGE.md that can be tested, what an object holds, no objects made by calls. */
public final class RulesTest {
    private static final String[] FACE = {
        "int write(int)", "int wipe()", "int fault()", "int room()", "int code(int)", "int reading(int)",
        "int weigh(int, int)", "int take(int)", "int swap(int, int)", "int read(int, int)", "int master(int)",
        "int undo()", "int rank(boolean)", "long value(int, boolean, boolean)", "long spread(int, boolean, boolean)",
        "long total(boolean, boolean)", "long rest(int, boolean, boolean)", "long squares(boolean, boolean)",
        "int next(boolean)", "int better()", "int doubtful(boolean)", "int wrong(boolean)", "int judge(int, long)",
        "int share(int, boolean, boolean)", "int lost(int, boolean, boolean)", "long seed(long)", "int drawn(int)",
        "int keep(int)", "int again(int)", "int count(int)"};
    private static final String[] BARRED = {
        "\\bthrow\\b", "\\bthrows\\b", "\\btry\\b", "\\bcatch\\b", "\\bsynchronized\\b", "\\bassert\\b", "->", "::",
        "\\bimport\\b", "\\bpackage\\b", "\\bprotected\\b", "\\bequals\\b", "\\bhashCode\\b", "\\btoString\\b",
        "Exact\\b", "\\bdouble\\b", "\\bfloat\\b", "\\bstatic\\s*\\{", "@Override", "[^\\x00-\\x7f]"};

    private static final String LIBRARY =
            "(Math|Integer|Long)\\.\\w+|System\\.arraycopy|Arrays\\.(copyOf|copyOfRange|fill)|List\\.of";
    private static final int DEEPEST = 8;

    private static int wrong = 0;

    private static void due(String what, Object got, Object want) {
        if (!got.equals(want)) {
            wrong++;
            System.out.println(what + ": is " + got + ", due is " + want);
        }
    }

    private static String told(Method m) {
        List<String> types = new ArrayList<>();
        for (Class<?> type : m.getParameterTypes()) types.add(type.getSimpleName());
        return m.getReturnType().getSimpleName() + " " + m.getName() + "(" + String.join(", ", types) + ")";
    }

    private static void face() {
        Class<?> type = BalanceRoom.class;
        due("the class is public and final", Modifier.toString(type.getModifiers()), "public final");
        Set<String> methods = new TreeSet<>();
        Set<String> names = new TreeSet<>();
        for (Method m : type.getDeclaredMethods()) {
            if (Modifier.isPrivate(m.getModifiers())) continue;
            methods.add(told(m));
            names.add(m.getName());
            due(m.getName() + " is public alone", Modifier.toString(m.getModifiers()), "public");
        }
        due("the methods", methods, new TreeSet<>(Arrays.asList(FACE)));
        Set<String> constants = new TreeSet<>();
        for (Field f : type.getDeclaredFields()) {
            if (!Modifier.isPrivate(f.getModifiers())) constants.add(Modifier.toString(f.getModifiers()) + " " + f.getName());
            if (Modifier.isStatic(f.getModifiers())) due(f.getName() + " is final", Modifier.isFinal(f.getModifiers()), true);
        }
        due("the constants", constants, new TreeSet<>(Arrays.asList("public static final UNKNOWN",
                "public static final OUTSIDE", "public static final STATE", "public static final FULL", "public static final NONE")));
        Constructor<?>[] made = type.getDeclaredConstructors();
        due("one constructor", made.length, 1);
        due("it is public, of nothing", Modifier.isPublic(made[0].getModifiers()) && made[0].getParameterCount() == 0, true);
        due("some twelve classes", type.getDeclaredClasses().length <= 11, true);
        noneBearsAPublicName(type, names);
        for (Class<?> inside : type.getDeclaredClasses()) {
            due(inside.getName() + " is static", Modifier.isStatic(inside.getModifiers()), true);
            due(inside.getName() + " is not public", Modifier.isPublic(inside.getModifiers()), false);
            noneBearsAPublicName(inside, names);
        }
    }

    private static void noneBearsAPublicName(Class<?> type, Set<String> names) {
        int fields = 0;
        for (Field f : type.getDeclaredFields()) if (!Modifier.isStatic(f.getModifiers())) fields++;
        due(type.getName() + " has some twenty fields at most", fields <= 20, true);
        for (Method m : type.getDeclaredMethods()) {
            due(m + " takes seven at most", m.getParameterCount() <= 7, true);
            boolean face = type == BalanceRoom.class && Modifier.isPublic(m.getModifiers());
            due(m + " has a name of its own", !face && names.contains(m.getName()), false);
        }
    }

    private static void source() throws Exception {
        String all = Files.readString(Path.of("src/main/java/BalanceRoom.java"));
        String code = all.replaceAll("(?s)/\\*.*?\\*/", " ").replaceAll("//[^\n]*", " ");
        for (String barred : BARRED) {
            Matcher found = Pattern.compile(barred).matcher(code);
            due("the source has no " + barred, found.find(), false);
        }
        Matcher library = Pattern.compile("\\b[A-Z][a-z]\\w*\\.\\w+(?=\\()").matcher(code);
        while (library.find()) due("of the library: " + library.group(), library.group().matches(LIBRARY), true);
        depths(code);
        int since = 0;
        int line = 0;
        for (String row : all.split("\n")) {
            line++;
            if (row.matches(" {4,8}[a-zA-Z].*\\) \\{")) since = line;
            if (row.matches(" {4,8}\\}")) due("the method at line " + since + " is short", line - since <= 60, true);
        }
    }

    /** Which methods each method names; methods of one name in several classes count as one. */
    private static Map<String, Set<String>> callsBetween(String code) {
        Map<String, String> bodies = new TreeMap<>();
        Matcher made = Pattern.compile("(?ms)^( {4}| {8})[a-zA-Z][^;={}(]*?\\b(\\w+)\\([^)]*\\) \\{\\n(.*?)^\\1\\}").matcher(code);
        while (made.find()) bodies.merge(made.group(2), made.group(3), String::concat);
        Map<String, Set<String>> calls = new TreeMap<>();
        for (String name : bodies.keySet()) {
            Set<String> called = new TreeSet<>();
            Matcher named = Pattern.compile("(?<!new )\\b(\\w+)\\(").matcher(bodies.get(name));
            while (named.find()) if (bodies.containsKey(named.group(1))) called.add(named.group(1));
            calls.put(name, called);
        }
        return calls;
    }

    private static int depthOf(String name, Map<String, Set<String>> calls, int above) {
        if (above > DEEPEST) return 1;
        int deepest = 0;
        for (String called : calls.get(name)) deepest = Math.max(deepest, depthOf(called, calls, above + 1));
        return deepest + 1;
    }

    /** A recursion would go deeper than any bound, so it is found too. */
    private static void depths(String code) {
        Map<String, Set<String>> calls = callsBetween(code);
        for (String told : FACE) {
            String name = told.replaceAll(".* (\\w+)\\(.*", "$1");
            due(name + " stands in the source", calls.containsKey(name), true);
            if (calls.containsKey(name)) {
                due(name + " goes " + DEEPEST + " deep at most", depthOf(name, calls, 1) <= DEEPEST, true);
            }
        }
        due("calls are seen: judge asks holds", calls.getOrDefault("judge", Set.of()).contains("holds"), true);
    }

    /** The order of the calls, under the headings that the document has ahead of them. */
    private static void headings() throws Exception {
        String page = Files.readString(Path.of("../shared/DOC.md"));
        String all = Files.readString(Path.of("src/main/java/BalanceRoom.java"));
        int place = 0;
        Matcher told = Pattern.compile("Ahead of the calls (.*) the interface says: (---- .*)\\.").matcher(page);
        int headings = 0;
        while (told.find()) {
            headings++;
            int found = all.indexOf("// " + told.group(2) + "\n", place);
            due("the heading " + told.group(2), found >= place, true);
            place = Math.max(place, found);
            for (String name : told.group(1).replace("`", "").split(", ")) {
                int call = all.indexOf(" " + name + "(", place);
                due(name + " behind its heading, in its row", call >= place, true);
                place = Math.max(place, call);
            }
        }
        due("headings", headings, 5);
    }

    /** How many objects and arrays, and how many fields and elements, hang on one object. */
    private static void holds(Object from, Set<Object> seen, int[] sums) throws Exception {
        if (from == null || !seen.add(from)) return;
        sums[0]++;
        if (from.getClass().isArray()) {
            sums[1] += Array.getLength(from);
            if (from instanceof Object[] parts) for (Object part : parts) holds(part, seen, sums);
            return;
        }
        for (Field f : from.getClass().getDeclaredFields()) {
            if (Modifier.isStatic(f.getModifiers())) continue;
            sums[1]++;
            f.setAccessible(true);
            if (!f.getType().isPrimitive()) holds(f.get(from), seen, sums);
        }
    }

    /** A run of 600,000 objects and 7,300,000 fields must have room for many of them. */
    private static void small() throws Exception {
        int[] sums = new int[2];
        holds(new BalanceRoom(), Collections.newSetFromMap(new IdentityHashMap<>()), sums);
        due("an object is some 100 objects and arrays (" + sums[0] + ")", sums[0] > 10 && sums[0] <= 120, true);
        due("and some 1,000 fields and elements (" + sums[1] + ")", sums[1] > 100 && sums[1] <= 1200, true);
    }

    /** Each call of the face once, in a full room of four weights. */
    private static long allCalls(BalanceRoom x) {
        long sum = x.wipe();
        String text = "B450w+-0+0+012w-+-00-100w0-+-++200w+++--+003w0-0-0-045w-+++++999w000++-031";
        for (int i = 0; i < text.length(); i++) sum += x.write(text.charAt(i));
        sum += x.fault() + x.room() + x.code(1) + x.reading(1);
        for (int i = 0; i < 2; i++) {
            boolean d = i == 0;
            sum += x.rank(d) + x.value(1, d, true) + x.spread(1, d, false) + x.total(d, true) + x.rest(1, d, d);
            sum += x.squares(d, true) + x.next(d) + x.doubtful(d) + x.wrong(d) + x.share(2, d, true) + x.lost(3, d, true);
        }
        sum += x.keep(0) + x.weigh(11111, 4) + x.swap(0, 1) + x.read(0, 3) + x.master(4) + x.take(2) + x.undo();
        sum += x.better() + x.judge(4, 1010205030504400L) + x.seed(4) + x.drawn(20) + x.again(0) + x.count(3);
        return sum;
    }

    private static void noObjects() {
        com.sun.management.ThreadMXBean threads = (com.sun.management.ThreadMXBean) ManagementFactory.getThreadMXBean();
        BalanceRoom[] rooms = new BalanceRoom[600];
        for (int i = 0; i < rooms.length; i++) rooms[i] = new BalanceRoom();
        long sum = 0;
        // The first half lets the machine make what it needs for itself.
        for (int i = 0; i < 300; i++) sum += allCalls(rooms[i]);
        long id = Thread.currentThread().getId();
        threads.getThreadAllocatedBytes(id);
        long before = threads.getThreadAllocatedBytes(id);
        for (int i = 300; i < 600; i++) sum += allCalls(rooms[i]);
        long after = threads.getThreadAllocatedBytes(id);
        due("300 times all calls make less than 20 bytes each time (" + (after - before) + ", " + sum + ")", (after - before) / 300 < 20, true);
    }

    public static void main(String[] args) throws Exception {
        face();
        source();
        headings();
        small();
        noObjects();
        System.out.println(wrong == 0 ? "all is as due" : wrong + " things are not as due");
        if (wrong != 0) System.exit(1);
    }
}
