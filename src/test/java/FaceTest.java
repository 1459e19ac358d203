import java.io.IOException;
import java.lang.reflect.Constructor;
import java.lang.reflect.Field;
import java.lang.reflect.Method;
import java.lang.reflect.Modifier;
import java.nio.file.Files;
import java.nio.file.Path;
import java.util.ArrayList;
import java.util.List;
import java.util.Set;
import java.util.TreeSet;
import java.util.regex.Matcher;
import java.util.regex.Pattern;

/** The public face, and the rules of LANGUAGE.md that can be seen in the class and in its text. */
public final class FaceTest {
    private static final Path SOURCE = Path.of("src/main/java/NeverSaid.java");
    private static final String FACE = "int person(int,int); int told(int,int); int as(int,int); int turns(int,int);"
            + " int bolder(int,int); int away(int,int,int); int friend(int,int,int); int follow(int,int,int);"
            + " int deal(int); int seed(int); int deed(int,int,int); int deedTold(int,int); int again(int);"
            + " int stop(int); int say(int,int,int); int choice(int,int); int rounds(int,int); int fewest(int,int);"
            + " int silent(); int meant(int); int proved(int); long falls(int,int); int most(); int feed(int,int,int);"
            + " int trim(int); int text(); int textTold(int,int); int why(int); int sheet(int,int,int);"
            + " int mark(int,int,int); int pour(int); int reads(int); int copy(int,int,int,int,int);"
            + " int lay(int,int,int); int ask(int,int); int item(int,int); int rest(int,int); int tell(int);"
            + " int check(int,int); int keep(); int back(); int count(int)";
    private static final String FORBIDDEN = "\\b(throw|throws|try|catch|finally|synchronized|assert|import|package|new"
            + " Object|hashCode|toString|equals|NaN|System\\.(?!arraycopy))\\b|->|::|Exact\\b|volatile|Thread|Random";
    private static final Set<Class<?>> STATIC_TYPES = Set.of(int.class, long.class, boolean.class, char.class,
            String.class, int[].class, long[].class, char[].class, byte[].class);
    private static final Due due = new Due();

    public static void main(String[] args) throws IOException {
        methods();
        fields();
        constructors();
        nestedClasses();
        rulesOf(NeverSaid.class);
        for (Class<?> c : NeverSaid.class.getDeclaredClasses()) {
            rulesOf(c);
        }
        sourceText();
        methodsAreShort();
        due.end();
    }

    private static String told(Method m) {
        List<String> types = new ArrayList<>();
        for (Class<?> type : m.getParameterTypes()) {
            types.add(type.getName());
        }
        return m.getReturnType().getName() + " " + m.getName() + "(" + String.join(",", types) + ")";
    }

    private static void methods() {
        Set<String> want = new TreeSet<>(List.of(FACE.split("; ")));
        Set<String> got = new TreeSet<>();
        Set<String> names = new TreeSet<>();
        for (Method m : NeverSaid.class.getDeclaredMethods()) {
            if (Modifier.isPublic(m.getModifiers())) {
                got.add(told(m));
                names.add(m.getName());
                due.is(m.getName() + " is of the object", Modifier.isStatic(m.getModifiers()) ? 1 : 0, 0);
            }
        }
        due.is("methods of the face", want.equals(got) ? 1 : 0, 1);
        due.is("how many", got.size(), 42);
        for (Method m : NeverSaid.class.getDeclaredMethods()) {
            boolean other = !Modifier.isPublic(m.getModifiers());
            due.is(m + " is private", other && !Modifier.isPrivate(m.getModifiers()) ? 1 : 0, 0);
            due.is(m + " has a name of its own", other && names.contains(m.getName()) ? 1 : 0, 0);
        }
    }

    private static void fields() {
        Set<String> want = Set.of("BAD", "NO", "FULL", "NONE", "NOTHING", "KIND", "INDEX", "SIZE");
        Set<String> got = new TreeSet<>();
        for (Field f : NeverSaid.class.getDeclaredFields()) {
            if (Modifier.isPublic(f.getModifiers())) {
                got.add(f.getName());
                due.is(f + " is a constant", f.getModifiers(), Modifier.PUBLIC | Modifier.STATIC | Modifier.FINAL);
            } else {
                due.is(f + " is private", Modifier.isPrivate(f.getModifiers()) ? 1 : 0, 1);
            }
        }
        due.is("constants of the face", want.equals(got) ? 1 : 0, 1);
    }

    private static void constructors() {
        Constructor<?>[] all = NeverSaid.class.getDeclaredConstructors();
        due.is("constructors", all.length, 1);
        due.is("it is public", all[0].getModifiers(), Modifier.PUBLIC);
        due.is("it takes nothing", all[0].getParameterCount(), 0);
        due.is("the class", NeverSaid.class.getModifiers(), Modifier.PUBLIC | Modifier.FINAL);
    }

    private static void nestedClasses() {
        Class<?>[] nested = NeverSaid.class.getDeclaredClasses();
        due.is("not too many classes", nested.length <= 11 ? 1 : 0, 1);
        for (Class<?> c : nested) {
            due.is(c + " is static", Modifier.isStatic(c.getModifiers()) ? 1 : 0, 1);
            due.is(c + " is not public", Modifier.isPublic(c.getModifiers()) ? 1 : 0, 0);
            int fields = 0;
            for (Field f : c.getDeclaredFields()) {
                boolean isStatic = Modifier.isStatic(f.getModifiers());
                fields += isStatic ? 0 : 1;
                due.is(f + " is final if static", isStatic && !Modifier.isFinal(f.getModifiers()) ? 1 : 0, 0);
            }
            due.is(c + " has some twenty fields at most", fields <= 20 ? 1 : 0, 1);
        }
    }

    /** Seven parameters at most; static fields are final, and numbers, texts, or rows of numbers. */
    private static void rulesOf(Class<?> c) {
        for (Method m : c.getDeclaredMethods()) {
            due.is(m + " has seven parameters at most", m.getParameterCount() <= 7 ? 1 : 0, 1);
        }
        for (Field f : c.getDeclaredFields()) {
            if (Modifier.isStatic(f.getModifiers())) {
                due.is(f + " is final", Modifier.isFinal(f.getModifiers()) ? 1 : 0, 1);
                due.is(f + " may be static", STATIC_TYPES.contains(f.getType()) ? 1 : 0, 1);
            }
        }
    }

    private static void methodsAreShort() throws IOException {
        int start = 0;
        int methods = 0;
        List<String> lines = Files.readAllLines(SOURCE);
        for (int i = 0; i < lines.size(); i++) {
            String line = lines.get(i);
            boolean isHead = line.matches("(    |        )(?! |if|for|while|switch)[\\w\\[\\] ]+\\(.*\\) \\{");
            start = isHead ? i : start;
            boolean isEnd = start > 0 && line.equals(indentOf(lines.get(start)) + "}");
            if (isEnd) {
                due.is(lines.get(start).trim() + " .. is short", i - start < 60 ? 1 : 0, 1);
                start = 0;
                methods++;
            }
        }
        due.is("many methods are looked at", methods > 100 ? 1 : 0, 1);
    }

    private static String indentOf(String line) {
        return line.substring(0, line.length() - line.stripLeading().length());
    }

    private static void sourceText() throws IOException {
        String text = Files.readString(SOURCE);
        due.is("signs of 1 to 127", text.chars().allMatch(c -> c < 128) ? 1 : 0, 1);
        String code = text.replaceAll("(?s)/\\*.*?\\*/", "").replaceAll("//[^\n]*", "");
        Matcher m = Pattern.compile(FORBIDDEN).matcher(code);
        due.is("words that the rules leave out" + (m.find() ? ": " + m.group() : ""), m.reset().find() ? 1 : 0, 0);
    }
}
