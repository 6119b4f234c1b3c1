import java.lang.management.ManagementFactory;
import java.lang.reflect.Constructor;
import java.lang.reflect.Field;
import java.lang.reflect.Method;
import java.lang.reflect.Modifier;
import java.nio.file.Files;
import java.nio.file.Path;
import java.util.ArrayList;
import java.util.Arrays;
import java.util.List;
import java.util.Set;
import java.util.TreeSet;
import java.util.regex.Matcher;
import java.util.regex.Pattern;

/** The face as the document tells it, the rules of LANGUAGE.md that can be seen from outside, and no objects made by calls. */
public final class RulesTest {
    private static final String[] FACE = {
        "int write(int)", "int wipe()", "int fault()", "int room()", "int code(int)", "int reading(int)",
        "int weigh(int, int)", "int take(int)", "int swap(int, int)", "int read(int, int)", "int master(int)",
        "int undo()", "int rank(boolean)", "long value(int, boolean, boolean)", "long spread(int, boolean, boolean)",
        "long total(boolean, boolean)", "long rest(int, boolean, boolean)", "long squares(boolean, boolean)",
        "int next(boolean)", "int better()", "int doubtful(boolean)", "int wrong(boolean)", "int judge(int, long)",
        "int share(int, boolean, boolean)", "int lost(int, boolean, boolean)", "long seed(long)", "int drawn(int)",
        "int keep(int)", "int again(int)", "int count(int)"};
    private static final String[] BARRED = {
        "\\bthrow\\b", "\\bthrows\\b", "\\btry\\b", "\\bcatch\\b", "\\bsynchronized\\b", "\\bassert\\b", "->", "::",
        "\\bimport\\b", "\\bpackage\\b", "\\bprotected\\b", "\\bequals\\b", "\\bhashCode\\b", "\\btoString\\b",
        "Exact\\b", "\\bdouble\\b", "\\bfloat\\b", "\\bstatic\\s*\\{", "@Override", "[^\\x00-\\x7f]"};

    private static int wrong = 0;

    private static void due(String what, Object got, Object want) {
        if (!got.equals(want)) {
            wrong++;
            System.out.println(what + ": is " + got + ", due is " + want);
        }
    }

    private static String told(Method m) {
        List<String> types = new ArrayList<>();
        for (Class<?> type : m.getParameterTypes()) types.add(type.getSimpleName());
        return m.getReturnType().getSimpleName() + " " + m.getName() + "(" + String.join(", ", types) + ")";
    }

    private static void face() {
        Class<?> type = BalanceRoom.class;
        due("the class is public and final", Modifier.toString(type.getModifiers()), "public final");
        Set<String> methods = new TreeSet<>();
        Set<String> names = new TreeSet<>();
        for (Method m : type.getDeclaredMethods()) {
            if (Modifier.isPrivate(m.getModifiers())) continue;
            methods.add(told(m));
            names.add(m.getName());
            due(m.getName() + " is public alone", Modifier.toString(m.getModifiers()), "public");
        }
        due("the methods", methods, new TreeSet<>(Arrays.asList(FACE)));
        Set<String> constants = new TreeSet<>();
        for (Field f : type.getDeclaredFields()) {
            if (!Modifier.isPrivate(f.getModifiers())) constants.add(Modifier.toString(f.getModifiers()) + " " + f.getName());
            if (Modifier.isStatic(f.getModifiers())) due(f.getName() + " is final", Modifier.isFinal(f.getModifiers()), true);
        }
        due("the constants", constants, new TreeSet<>(Arrays.asList("public static final UNKNOWN",
                "public static final OUTSIDE", "public static final STATE", "public static final FULL", "public static final NONE")));
        Constructor<?>[] made = type.getDeclaredConstructors();
        due("one constructor", made.length, 1);
        due("it is public, of nothing", Modifier.isPublic(made[0].getModifiers()) && made[0].getParameterCount() == 0, true);
        due("some twelve classes", type.getDeclaredClasses().length <= 11, true);
        noneBearsAPublicName(type, names);
        for (Class<?> inside : type.getDeclaredClasses()) {
            due(inside.getName() + " is static", Modifier.isStatic(inside.getModifiers()), true);
            due(inside.getName() + " is not public", Modifier.isPublic(inside.getModifiers()), false);
            noneBearsAPublicName(inside, names);
        }
    }

    private static void noneBearsAPublicName(Class<?> type, Set<String> names) {
        int fields = 0;
        for (Field f : type.getDeclaredFields()) if (!Modifier.isStatic(f.getModifiers())) fields++;
        due(type.getName() + " has some twenty fields at most", fields <= 20, true);
        for (Method m : type.getDeclaredMethods()) {
            due(m + " takes seven at most", m.getParameterCount() <= 7, true);
            boolean face = type == BalanceRoom.class && Modifier.isPublic(m.getModifiers());
            due(m + " has a name of its own", !face && names.contains(m.getName()), false);
        }
    }

    private static void source() throws Exception {
        String all = Files.readString(Path.of("src/main/java/BalanceRoom.java"));
        String code = all.replaceAll("(?s)/\\*.*?\\*/", " ").replaceAll("//[^\n]*", " ");
        for (String barred : BARRED) {
            Matcher found = Pattern.compile(barred).matcher(code);
            due("the source has no " + barred, found.find(), false);
        }
        int since = 0;
        int line = 0;
        for (String row : all.split("\n")) {
            line++;
            if (row.matches(" {4,8}[a-zA-Z].*\\) \\{")) since = line;
            if (row.matches(" {4,8}\\}")) due("the method at line " + since + " is short", line - since <= 60, true);
        }
    }

    /** Each call of the face once, in a full room of four weights. */
    private static long allCalls(BalanceRoom x) {
        long sum = x.wipe();
        String text = "B450w+-0+0+012w-+-00-100w0-+-++200w+++--+003w0-0-0-045w-+++++999w000++-031";
        for (int i = 0; i < text.length(); i++) sum += x.write(text.charAt(i));
        sum += x.fault() + x.room() + x.code(1) + x.reading(1);
        for (int i = 0; i < 2; i++) {
            boolean d = i == 0;
            sum += x.rank(d) + x.value(1, d, true) + x.spread(1, d, false) + x.total(d, true) + x.rest(1, d, d);
            sum += x.squares(d, true) + x.next(d) + x.doubtful(d) + x.wrong(d) + x.share(2, d, true) + x.lost(3, d, true);
        }
        sum += x.keep(0) + x.weigh(11111, 4) + x.swap(0, 1) + x.read(0, 3) + x.master(4) + x.take(2) + x.undo();
        sum += x.better() + x.judge(4, 1010205030504400L) + x.seed(4) + x.drawn(20) + x.again(0) + x.count(3);
        return sum;
    }

    private static void noObjects() {
        com.sun.management.ThreadMXBean threads = (com.sun.management.ThreadMXBean) ManagementFactory.getThreadMXBean();
        BalanceRoom x = new BalanceRoom();
        long sum = 0;
        for (int i = 0; i < 300; i++) sum += allCalls(x);
        long id = Thread.currentThread().getId();
        threads.getThreadAllocatedBytes(id);
        long before = threads.getThreadAllocatedBytes(id);
        for (int i = 0; i < 300; i++) sum += allCalls(x);
        long after = threads.getThreadAllocatedBytes(id);
        due("300 times all calls make less than 20 bytes each time (" + (after - before) + ", " + sum + ")", (after - before) / 300 < 20, true);
    }

    public static void main(String[] args) throws Exception {
        face();
        source();
        noObjects();
        System.out.println(wrong == 0 ? "all is as due" : wrong + " things are not as due");
        if (wrong != 0) System.exit(1);
    }
}
