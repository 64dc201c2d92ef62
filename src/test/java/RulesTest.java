import java.io.IOException;
import java.lang.management.ManagementFactory;
import java.lang.reflect.Field;
import java.lang.reflect.Method;
import java.lang.reflect.Modifier;
import java.nio.file.Files;
import java.nio.file.Path;
import java.util.ArrayList;
import java.util.Arrays;
import java.util.Collections;
import java.util.List;
import java.util.TreeSet;
import java.util.regex.Matcher;
import java.util.regex.Pattern;

/** What of ../shared/LANGUAGE.md a program can see, the document's face, and the room that calls need. */
final class RulesTest {
    private static final Due DUE = new Due("RulesTest");
    private static final List<String> FACE = List.of(
        "int write(int, long)", "int wipe()", "int fault()", "int day()", "int about(int)", "int at(int)",
        "int far(int, int)", "int errand(int, int)", "int walk(int, int)", "int carry(int, int)",
        "int done(int, int)", "int loan(int, boolean)", "int back()", "int undo()", "int judge(int, int, int)",
        "int tour(int, int)", "int plan(int)", "int live()", "int byTurns(int)", "long ledger(int, int, int)",
        "int ends(int, int, int)", "long chance(int, int, boolean)", "int spare(int, int)", "int keep(int)",
        "int again(int)");

    public static void main(String[] args) throws IOException {
        face();
        classes();
        source(Files.readString(Path.of("src/main/java/StepsShared.java")));
        room();
        hardestCallsEnd();
        DUE.close();
    }

    private static void face() {
        List<String> found = new ArrayList<>();
        for (Method m : StepsShared.class.getDeclaredMethods()) {
            if (Modifier.isPrivate(m.getModifiers()) || m.isSynthetic()) continue;
            DUE.holds(m + " is public and no static one", m.getModifiers() == Modifier.PUBLIC);
            StringBuilder types = new StringBuilder();
            for (Class<?> c : m.getParameterTypes()) types.append(types.length() > 0 ? ", " : "").append(c.getName());
            found.add(m.getReturnType() + " " + m.getName() + "(" + types + ")");
        }
        List<String> want = new ArrayList<>(FACE);
        Collections.sort(want);
        Collections.sort(found);
        DUE.holds("face: " + found, found.equals(want));
        DUE.holds("public and final", StepsShared.class.getModifiers() == (Modifier.PUBLIC | Modifier.FINAL));
        DUE.due("constructors", StepsShared.class.getConstructors().length, 1);
        TreeSet<String> constants = new TreeSet<>();
        for (Field f : StepsShared.class.getDeclaredFields()) {
            if (!Modifier.isPrivate(f.getModifiers())) constants.add(f.getName());
        }
        DUE.holds("constants: " + constants, constants.equals(new TreeSet<>(List.of("UNKNOWN", "BAD", "LATE", "FULL", "NONE"))));
    }

    private static void classes() {
        List<Class<?>> all = new ArrayList<>(List.of(StepsShared.class));
        all.addAll(Arrays.asList(StepsShared.class.getDeclaredClasses()));
        DUE.holds("at most twelve classes", all.size() <= 12);
        TreeSet<String> publicNames = new TreeSet<>();
        for (String m : FACE) publicNames.add(m.substring(m.indexOf(' ') + 1, m.indexOf('(')));
        for (Class<?> c : all) {
            int fields = 0;
            for (Field f : c.getDeclaredFields()) {
                if (!Modifier.isStatic(f.getModifiers())) fields++;
                else DUE.holds(f + " is final", Modifier.isFinal(f.getModifiers()));
            }
            DUE.holds(c + " has few fields", fields <= 20);
            DUE.holds(c + " is static", c == StepsShared.class || Modifier.isStatic(c.getModifiers()));
            for (Method m : c.getDeclaredMethods()) {
                DUE.holds(m + " takes seven at most", m.getParameterCount() <= 7);
                if (c != StepsShared.class || Modifier.isPrivate(m.getModifiers())) {
                    DUE.holds(m + " has a name of its own", !publicNames.contains(m.getName()));
                }
            }
        }
    }

    private static void source(String text) {
        for (int i = 0; i < text.length(); i++) {
            if (text.charAt(i) > 126) DUE.holds("plain signs only, not " + text.charAt(i), false);
        }
        String code = text.replaceAll("(?s)/\\*.*?\\*/", "").replaceAll("//[^\n]*", "");
        String[] out = {"throw", "throws", "try", "catch", "synchronized", "assert", "import", "package", "instanceof",
            "System", "Object", "Thread", "Exception", "hashCode", "toString", "volatile", "transient", "native"};
        for (String word : out) {
            DUE.holds("no word " + word, !Pattern.compile("\\b" + word + "\\b").matcher(code).find());
        }
        DUE.holds("no lambda", !code.contains("->"));
        DUE.holds("no method reference", !code.contains("::"));
        Matcher calls = Pattern.compile("\\b(Math|Integer|Long|Arrays|String|StringBuilder|List|ArrayList)\\b(\\.\\w+)?").matcher(code);
        while (calls.find()) {
            DUE.holds(calls.group() + " is of the list",
                List.of("Math.min", "Math.max", "Math.abs", "Integer.bitCount").contains(calls.group()));
        }
        int start = 0;
        String[] lines = text.split("\n");
        for (int i = 0; i < lines.length; i++) {
            if (lines[i].matches("( {4}| {8})\\S.*\\) \\{")) start = i;
            if (lines[i].matches("( {4}| {8})\\}")) DUE.holds("short method at line " + (start + 1), i - start < 60 || start == 0);
        }
    }

    /** No call makes an object; one object of the class stays far below the room of a run. */
    private static void room() {
        StepsShared x = Due.dayOf("V2006R0101R0202R0303R0404R0505E192E282E372E462E552");
        for (int i = 0; i < 3; i++) allCalls(x);
        com.sun.management.ThreadMXBean bean = (com.sun.management.ThreadMXBean) ManagementFactory.getThreadMXBean();
        long id = Thread.currentThread().getId();
        bean.getThreadAllocatedBytes(id);
        long before = bean.getThreadAllocatedBytes(id);
        for (int i = 0; i < 20; i++) allCalls(x);
        long calls = bean.getThreadAllocatedBytes(id) - before;
        DUE.holds("500 calls took " + calls + " bytes", calls < 4096);
        before = bean.getThreadAllocatedBytes(id);
        StepsShared other = new StepsShared();
        long made = bean.getThreadAllocatedBytes(id) - before;
        DUE.holds("an object takes " + made + " bytes", other.at(0) == 0 && made < 200000);
    }

    private static void allCalls(StepsShared x) {
        x.fault();
        x.about(8);
        x.walk(0, 1);
        x.walk(0, 0);
        x.carry(0, 2);
        x.done(0, 1);
        x.loan(3, true);
        x.keep(0);
        x.back();
        x.undo();
        x.again(0);
        x.judge(0, 8, 10101010);
        x.tour(0, 5);
        x.plan(0);
        x.live();
        x.byTurns(0);
        x.ledger(0, 8, 20);
        x.ends(0, 8, 20);
        x.chance(3, 10, true);
        x.spare(3, 90);
        x.far(0, 5);
        x.errand(0, 4);
        x.at(1);
        x.day();
        x.write(8, -1L);
        x.wipe();
        for (char c : "V2006R0101R0202R0303R0404R0505E192E282E372E462E552".toCharArray()) x.write(1, c);
    }

    private static void hardestCallsEnd() {
        StepsShared x = Due.dayOf("V9996R0197R0298R0399R0496R0595R1294R1393R1492R1591R2390E192E282E372E462E552");
        for (int i = 0; i < 128; i++) {
            x.byTurns(i % 2);
            x.ledger(i % 6, 8, 999 - i);
            x.live();
            x.spare(5, 100);
        }
        DUE.due("still there", x.about(3), 999);
    }
}
