import java.lang.reflect.Constructor;
import java.lang.reflect.Field;
import java.lang.reflect.Method;
import java.lang.reflect.Modifier;
import java.nio.file.Files;
import java.nio.file.Path;
import java.util.ArrayList;
import java.util.List;
import java.util.TreeSet;
import java.util.regex.Matcher;
import java.util.regex.Pattern;

/** The document's face, no more and no less, and what of ../shared/LANGUAGE.md can be seen from the text. */
public final class FaceTest {
    private static final Due DUE = new Due();
    private static final String[] FACE = {
        "int row(int, long)", "int sheet(int, int, int)", "int lay(int, int, int)", "int draw(int, int, int, int)",
        "int drop()", "int length(int)", "int place(int, int)", "long number(int)", "int open(int, int)",
        "int round(int, int)", "int about(int, int)", "long least(int)", "int turn(int, int)", "int put(int, int)",
        "int weave(int, int)", "int times(int, int)", "int cancels(int, int)", "int four(int, int, int, int)",
        "int doubled(int, int)", "int told(int)", "int why(int)", "int squares(int, int)", "int pairs(int, int)",
        "int pair(int, int)", "int best(int, int, int)", "int count(int)"};
    private static final String[] RULED_OUT = {
        "\\bthrow\\b", "\\btry\\b", "\\bcatch\\b", "\\bsynchronized\\b", "\\bassert\\b", "->", "::", "\\bpackage\\b",
        "Exact\\b", "\\bhashCode\\b", "\\btoString\\b", "\\bequals\\b", "\\brandom", "\\bSystem\\.(?!arraycopy)",
        "\\bThread\\b", "\\bObject\\b", "\\bvar\\b"};

    public static void main(String[] args) throws Exception {
        constants();
        face();
        privateNames();
        language();
        recursion();
        DUE.end();
    }

    private static void constants() throws Exception {
        DUE.due("BAD", CancelRows.BAD, -1);
        DUE.due("STATE", CancelRows.STATE, -2);
        DUE.due("FULL", CancelRows.FULL, -3);
        DUE.due("NONE", CancelRows.NONE, -4);
        int seen = 0;
        for (Field field : CancelRows.class.getDeclaredFields()) {
            if (!Modifier.isPrivate(field.getModifiers())) {
                seen++;
                int all = Modifier.PUBLIC | Modifier.STATIC | Modifier.FINAL;
                DUE.due(field.getName(), field.getModifiers() & all, all);
            }
            if (Modifier.isStatic(field.getModifiers())) {
                DUE.holds(field.getName() + " is final", Modifier.isFinal(field.getModifiers()));
            }
        }
        DUE.due("constants of the face", seen, 4);
    }

    private static String written(Method method) {
        StringBuilder text = new StringBuilder(method.getReturnType() + " " + method.getName() + "(");
        for (Class<?> type : method.getParameterTypes()) {
            text.append(text.charAt(text.length() - 1) == '(' ? "" : ", ").append(type);
        }
        return text.append(")").toString();
    }

    private static void face() {
        TreeSet<String> due = new TreeSet<>(List.of(FACE));
        TreeSet<String> got = new TreeSet<>();
        for (Method method : CancelRows.class.getDeclaredMethods()) {
            if (!Modifier.isPrivate(method.getModifiers())) {
                got.add(written(method));
                DUE.holds(method + " is public, of an object", method.getModifiers() == Modifier.PUBLIC);
            }
        }
        DUE.holds("the face is " + due + ", not " + got, due.equals(got));
        DUE.holds("public and final", CancelRows.class.getModifiers() == (Modifier.PUBLIC | Modifier.FINAL));
        Constructor<?>[] constructors = CancelRows.class.getDeclaredConstructors();
        DUE.due("constructors", constructors.length, 1);
        DUE.due("its parameters", constructors[0].getParameterCount(), 0);
        DUE.holds("it is public", constructors[0].getModifiers() == Modifier.PUBLIC);
    }

    private static void privateNames() {
        TreeSet<String> names = new TreeSet<>();
        for (String one : FACE) {
            names.add(one.substring(one.indexOf(' ') + 1, one.indexOf('(')));
        }
        List<Class<?>> classes = new ArrayList<>(List.of(CancelRows.class.getDeclaredClasses()));
        DUE.holds("at most twelve classes", classes.size() < 12);
        classes.add(CancelRows.class);
        for (Class<?> type : classes) {
            DUE.holds(type + " is static", type == CancelRows.class || Modifier.isStatic(type.getModifiers()));
            for (Method method : type.getDeclaredMethods()) {
                boolean ofFace = type == CancelRows.class && Modifier.isPublic(method.getModifiers());
                DUE.holds(method + " bears a name of its own", ofFace || !names.contains(method.getName()));
                DUE.holds(method + " takes at most seven", method.getParameterCount() <= 7);
            }
        }
    }

    private static String code() throws Exception {
        String source = Files.readString(Path.of("src/main/java/CancelRows.java"));
        return source.replaceAll("(?s)/\\*.*?\\*/", "").replaceAll("//[^\n]*", "");
    }

    /** A method that calls itself is private and static; a method ends where its own indent comes back. */
    private static void recursion() throws Exception {
        String head = "(?m)^( {4}| {8})((?:\\w+ )*)\\w+(?:\\[\\])? (\\w+)\\([^)]*\\) \\{\n";
        Matcher method = Pattern.compile(head + "(?s:(.*?))\n\\1\\}").matcher(code());
        int seen = 0;
        while (method.find()) {
            String name = method.group(3);
            if (Pattern.compile("(?<![\\w.])" + name + "\\(").matcher(method.group(4)).find()) {
                seen++;
                DUE.holds(name + " calls itself: it is private static", method.group(2).equals("private static "));
            }
        }
        DUE.holds("a method that calls itself is seen", seen > 0);
    }

    private static void language() throws Exception {
        String code = code();
        for (String ruledOut : RULED_OUT) {
            Matcher matcher = Pattern.compile(ruledOut).matcher(code);
            DUE.holds("nowhere " + ruledOut, !matcher.find());
        }
        Matcher imported = Pattern.compile("import ([\\w.*]+);").matcher(code);
        while (imported.find()) {
            DUE.holds(imported.group(), List.of("java.util.ArrayList", "java.util.List", "java.util.Arrays",
                "java.util.Iterator").contains(imported.group(1)));
        }
    }
}
