import java.lang.reflect.Method;
import java.lang.reflect.Modifier;
import java.nio.file.Files;
import java.nio.file.Path;
import java.util.Map;
import java.util.TreeMap;
import java.util.TreeSet;
import java.util.regex.Matcher;
import java.util.regex.Pattern;

/** The calls that README.md shows, each with the answer that stands behind it; and it shows each call of the face. */
public final class ReadmeTest {
    private static final Due DUE = new Due();
    private static final String MADE = "CancelRows x = new CancelRows();";
    private static final Pattern SHOWN =
        Pattern.compile("(?:int (\\w+) = )?(x\\.(\\w+)\\((.*)\\));\\s+// (-?\\d+)(?:: .*)?");

    private static final Map<String, Method> FACE = new TreeMap<>();
    private static final Map<String, Long> NAMED = new TreeMap<>();
    private static final TreeSet<String> CALLED = new TreeSet<>();
    private static CancelRows x;

    public static void main(String[] args) throws Exception {
        for (Method method : CancelRows.class.getDeclaredMethods()) {
            if (Modifier.isPublic(method.getModifiers())) {
                FACE.put(method.getName(), method);
            }
        }
        boolean inside = false;
        for (String line : Files.readAllLines(Path.of("README.md"))) {
            if (line.startsWith("```")) {
                inside = line.equals("```java");
            } else if (inside) {
                line(line);
            }
        }
        DUE.holds("shown are " + CALLED + " of " + FACE.keySet(), CALLED.equals(FACE.keySet()));
        DUE.end();
    }

    private static void line(String line) throws Exception {
        if (line.equals(MADE)) {
            x = new CancelRows();
            NAMED.clear();
            return;
        }
        Matcher matcher = SHOWN.matcher(line);
        boolean readable = x != null && matcher.matches() && FACE.containsKey(matcher.group(3));
        DUE.holds("README.md shows a call and its answer: " + line, readable);
        if (readable) {
            long got = answer(FACE.get(matcher.group(3)), matcher.group(4));
            DUE.due("README.md: " + matcher.group(2), got, Long.parseLong(matcher.group(5)));
            if (matcher.group(1) != null) {
                NAMED.put(matcher.group(1), got);
            }
        }
    }

    private static long answer(Method method, String given) throws Exception {
        CALLED.add(method.getName());
        Class<?>[] types = method.getParameterTypes();
        String[] texts = given.isEmpty() ? new String[0] : given.split(", ");
        Object[] values = new Object[texts.length];
        for (int i = 0; i < texts.length; i++) {
            long value = NAMED.containsKey(texts[i]) ? NAMED.get(texts[i]) : Long.parseLong(texts[i]);
            boolean isLong = i < types.length && types[i] == long.class;
            values[i] = isLong ? (Object) value : (Object) (int) value;
        }
        return ((Number) method.invoke(x, values)).longValue();
    }
}
