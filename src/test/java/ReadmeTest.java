import java.lang.reflect.Method;
import java.lang.reflect.Modifier;
import java.nio.file.Files;
import java.nio.file.Path;
import java.util.HashMap;
import java.util.Map;
import java.util.Set;
import java.util.TreeSet;
import java.util.regex.Matcher;
import java.util.regex.Pattern;

/** The examples of README.md are one run on one object: each call must answer what stands behind it. */
public final class ReadmeTest {
    private static final Path README = Path.of("README.md");
    private static final String MAKING = "NeverSaid x = new NeverSaid();";
    private static final Pattern CALL =
            Pattern.compile("(?:int (\\w+) = )?(x\\.(\\w+)\\((.*)\\));\\s+// (-?\\w+)(?::.*)?");

    private static final Due due = new Due();
    private static final Map<String, Integer> names = new HashMap<>();
    private static final NeverSaid x = new NeverSaid();

    public static void main(String[] args) throws Exception {
        String text = Files.readString(README);
        examples(text);
        everyCallIsNamed(text);
        due.end();
    }

    private static void examples(String text) throws ReflectiveOperationException {
        int calls = 0;
        Matcher block = Pattern.compile("(?s)```java\n(.*?)```").matcher(text);
        while (block.find()) {
            for (String line : block.group(1).split("\n")) {
                if (!line.equals(MAKING)) {
                    example(line);
                    calls++;
                }
            }
        }
        due.is("there are many examples", calls > 40 ? 1 : 0, 1);
    }

    private static void example(String line) throws ReflectiveOperationException {
        Matcher call = CALL.matcher(line);
        due.is("can be read: " + line, call.matches() ? 1 : 0, 1);
        if (!call.matches()) {
            return;
        }
        String[] told = call.group(4).isEmpty() ? new String[0] : call.group(4).split(", ");
        Object[] numbers = new Object[told.length];
        for (int i = 0; i < told.length; i++) {
            numbers[i] = valueOf(told[i]);
        }
        long answer = ((Number) methodOf(call.group(3), told.length).invoke(x, numbers)).longValue();
        due.is("README.md: " + call.group(2), answer, valueOf(call.group(5)));
        if (call.group(1) != null) {
            names.put(call.group(1), (int) answer);
        }
    }

    private static Method methodOf(String name, int many) throws NoSuchMethodException {
        Class<?>[] types = new Class<?>[many];
        java.util.Arrays.fill(types, int.class);
        return NeverSaid.class.getMethod(name, types);
    }

    /** A number, one of the names given before, a constant of the class, or 1 moved up by one of these. */
    private static int valueOf(String told) throws ReflectiveOperationException {
        if (told.startsWith("1 << ")) {
            return 1 << valueOf(told.substring(5));
        }
        if (names.containsKey(told)) {
            return names.get(told);
        }
        if (told.matches("(NeverSaid\\.)?[A-Z]+")) {
            return NeverSaid.class.getField(told.replace("NeverSaid.", "")).getInt(null);
        }
        return Integer.decode(told);
    }

    private static void everyCallIsNamed(String text) {
        Set<String> calls = new TreeSet<>();
        for (Method m : NeverSaid.class.getDeclaredMethods()) {
            if (Modifier.isPublic(m.getModifiers())) {
                calls.add(m.getName());
            }
        }
        for (String call : calls) {
            due.is("README.md names " + call, text.contains("`" + call + "`") ? 1 : 0, 1);
        }
    }
}
