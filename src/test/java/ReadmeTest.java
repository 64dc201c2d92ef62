import java.io.File;
import java.io.IOException;
import java.lang.reflect.Method;
import java.lang.reflect.Modifier;
import java.nio.file.Files;
import java.nio.file.Path;
import java.util.Objects;
import java.util.TreeSet;
import java.util.regex.Matcher;
import java.util.regex.Pattern;

/** README.md holds: its example answers as it says, and it names each call and each test. */
final class ReadmeTest {
    private static final Due DUE = new Due("ReadmeTest");
    private static final Pattern TOLD = Pattern.compile("for \\(char c : \"(\\w+)\"\\.toCharArray\\(\\)\\) x\\.write\\(1, c\\);");
    private static final Pattern CALL = Pattern.compile("x\\.(\\w+)\\(([^)]*)\\);\\s*// (-?\\d+)\\b.*");

    public static void main(String[] args) throws Exception {
        String readme = Files.readString(Path.of("README.md"));
        example(readme);
        namesEachTest(readme);
        DUE.close();
    }

    private static void example(String readme) throws Exception {
        int start = readme.indexOf("```java");
        int end = readme.indexOf("```", start + 7);
        DUE.holds("an example is there", start >= 0 && end > start);
        StepsShared x = new StepsShared();
        TreeSet<String> seen = new TreeSet<>();
        for (String line : readme.substring(start, end).split("\n")) {
            Matcher told = TOLD.matcher(line);
            Matcher call = CALL.matcher(line);
            if (told.matches()) {
                seen.add("write");
                for (char c : told.group(1).toCharArray()) x.write(1, c);
            } else if (call.matches()) {
                seen.add(call.group(1));
                DUE.due("README " + line, answer(x, call.group(1), call.group(2)), Long.parseLong(call.group(3)));
            } else {
                DUE.holds("README can be read: " + line, !line.contains("x."));
            }
        }
        TreeSet<String> face = new TreeSet<>();
        for (Method m : StepsShared.class.getDeclaredMethods()) {
            if (Modifier.isPublic(m.getModifiers())) face.add(m.getName());
        }
        DUE.holds("the example has each call: " + seen, seen.equals(face));
        for (String name : face) DUE.holds("README lists " + name, readme.contains("`" + name + "`"));
    }

    private static long answer(StepsShared x, String name, String told) throws Exception {
        String[] words = told.isEmpty() ? new String[0] : told.split(", ");
        for (Method m : StepsShared.class.getDeclaredMethods()) {
            if (!m.getName().equals(name) || m.getParameterCount() != words.length) continue;
            Object[] given = new Object[words.length];
            for (int i = 0; i < words.length; i++) {
                Class<?> type = m.getParameterTypes()[i];
                if (type == boolean.class) given[i] = Boolean.valueOf(words[i]);
                else if (type == long.class) given[i] = Long.valueOf(words[i]);
                else given[i] = Integer.valueOf(words[i]);
            }
            return ((Number) m.invoke(x, given)).longValue();
        }
        throw new IllegalStateException("no such call: " + name);
    }

    private static void namesEachTest(String readme) throws IOException {
        for (File file : Objects.requireNonNull(new File("src/test/java").listFiles())) {
            String name = file.getName().replace(".java", "");
            if (name.endsWith("Test")) DUE.holds("README names " + name, readme.contains("`" + name + "`"));
        }
    }
}
