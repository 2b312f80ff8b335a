import java.lang.reflect.Constructor;
import java.lang.reflect.Field;
import java.lang.reflect.Method;
import java.lang.reflect.Modifier;
import java.nio.file.Files;
import java.nio.file.Path;
import java.util.Set;
import java.util.TreeSet;
import java.util.regex.Matcher;
import java.util.regex.Pattern;

/** The public face is the document's and no more, and the file keeps what LANGUAGE.md leaves. */
public final class FaceTest {
    private static final String[] FACE = {
        "final NONE",
        "new(int, int)",
        "int bay(int, int) IllegalArgumentException IllegalStateException",
        "boolean rate(int, int, int) ArithmeticException IllegalArgumentException",
        "boolean step(int)",
        "int plan()",
        "int works(int, int) IndexOutOfBoundsException IllegalStateException",
        "int where(int, int) IndexOutOfBoundsException IllegalStateException",
        "int fails(int, int) IndexOutOfBoundsException IllegalArgumentException IllegalStateException",
        "int bound()",
        "int row(int, int) IllegalStateException IndexOutOfBoundsException",
        "int look(int, int) IndexOutOfBoundsException",
        "int count(int)",
    };

    private static final String[] RULED_OUT = {
        "->", "::", "\\btry\\b", "\\bcatch\\b", "\\bfinally\\b", "\\bsynchronized\\b", "\\bassert\\b",
        "\\bpackage\\b", "\\bdouble\\b", "\\bfloat\\b", "Exact\\b", "\\bMath\\.random\\b",
        "\\bSystem\\.(?!arraycopy\\b)", "\\bimport (?!java\\.util\\.Arrays;)",
        "\\bArrays\\.(?!fill\\b)", "\\bwhile \\(true\\)",
    };

    public static void main(String[] args) throws Exception {
        Check check = new Check();
        check.part("the face");
        check.due(new TreeSet<>(Set.of(FACE)), "the face", FaceTest::face);
        check.due(true, "public and final", () -> Modifier.isPublic(CranePlan.class.getModifiers())
                && Modifier.isFinal(CranePlan.class.getModifiers()));
        check.due(-1, "NONE", () -> CranePlan.NONE);
        check.due(Set.of(), "private methods with a public one's name", FaceTest::namesTakenTwice);
        check.due(Set.of(), "classes inside that are not static or are public", FaceTest::wrongClasses);
        check.part("the file");
        String code = codeOf(Path.of("src/main/java/CranePlan.java"));
        for (String pattern : RULED_OUT) {
            check.due("", "what matches " + pattern, () -> firstMatch(pattern, code));
        }
        check.end();
    }

    private static Set<String> face() {
        Set<String> face = new TreeSet<>();
        for (Field field : CranePlan.class.getDeclaredFields()) {
            if (!Modifier.isPrivate(field.getModifiers())) {
                face.add((Modifier.isFinal(field.getModifiers()) ? "final " : "") + field.getName());
            }
        }
        for (Constructor<?> constructor : CranePlan.class.getDeclaredConstructors()) {
            face.add("new" + typesOf(constructor.getParameterTypes()));
        }
        for (Method method : CranePlan.class.getDeclaredMethods()) {
            if (!Modifier.isPrivate(method.getModifiers())) {
                StringBuilder text = new StringBuilder(method.getReturnType().getSimpleName());
                text.append(' ').append(method.getName()).append(typesOf(method.getParameterTypes()));
                for (Class<?> thrown : method.getExceptionTypes()) {
                    text.append(' ').append(thrown.getSimpleName());
                }
                face.add(text.toString());
            }
        }
        return face;
    }

    private static String typesOf(Class<?>[] types) {
        StringBuilder text = new StringBuilder("(");
        for (Class<?> type : types) {
            text.append(text.length() > 1 ? ", " : "").append(type.getSimpleName());
        }
        return text.append(")").toString();
    }

    private static Set<String> namesTakenTwice() {
        Set<String> open = new TreeSet<>();
        for (Method method : CranePlan.class.getDeclaredMethods()) {
            if (Modifier.isPublic(method.getModifiers())) {
                open.add(method.getName());
            }
        }
        Set<String> twice = new TreeSet<>();
        for (Method method : CranePlan.class.getDeclaredMethods()) {
            if (!Modifier.isPublic(method.getModifiers()) && open.contains(method.getName())) {
                twice.add(method.getName());
            }
        }
        for (Class<?> inside : CranePlan.class.getDeclaredClasses()) {
            for (Method method : inside.getDeclaredMethods()) {
                if (open.contains(method.getName())) {
                    twice.add(inside.getSimpleName() + "." + method.getName());
                }
            }
        }
        return twice;
    }

    private static Set<String> wrongClasses() {
        Set<String> wrong = new TreeSet<>();
        for (Class<?> inside : CranePlan.class.getDeclaredClasses()) {
            if (!Modifier.isStatic(inside.getModifiers()) || Modifier.isPublic(inside.getModifiers())) {
                wrong.add(inside.getSimpleName());
            }
        }
        return wrong;
    }

    private static String codeOf(Path file) throws Exception {
        return Files.readString(file).replaceAll("(?s)/\\*.*?\\*/", "").replaceAll("//[^\n]*", "");
    }

    private static String firstMatch(String pattern, String code) {
        Matcher matcher = Pattern.compile(pattern).matcher(code);
        return matcher.find() ? code.substring(matcher.start(), Math.min(code.length(), matcher.end() + 20)) : "";
    }
}
