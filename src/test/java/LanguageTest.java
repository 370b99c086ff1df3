import java.io.IOException;
import java.lang.reflect.Field;
import java.lang.reflect.Method;
import java.lang.reflect.Modifier;
import java.nio.file.Files;
import java.nio.file.Path;
import java.util.ArrayList;
import java.util.List;
import java.util.Set;
import java.util.regex.Matcher;
import java.util.regex.Pattern;

/** What of LANGUAGE.md can be seen in the text of the class, by the numbers of its rules; FaceTest holds rule 1. */
final class LanguageTest {
    private static final Path SOURCE = Path.of("src/main/java/Triplane.java");
    private static final Pattern NOT_CODE =
            Pattern.compile("/\\*.*?\\*/|//[^\n]*|(\"(?:[^\"\\\\]|\\\\.)*\")|('(?:[^'\\\\]|\\\\.)+')", Pattern.DOTALL);
    /** An arrow may be one of a switch, which the rules leave, but it cannot be told from one of a lambda here. */
    private static final String[] RULED_OUT = {
        "2: ->", "2: ::", "3: Math.sqrt", "3: Math.pow", "4: Exact(", "5: static {", "6: finally", "6: synchronized",
        "6: assert ", "6: getMessage", "6: hashCode", "6: toString", "6: .equals(", "7: Exception e)", "10: +=\"",
        "13: Thread", "13: Random", "13: java.io", "13: java.nio", "13: nanoTime", "13: currentTime", "13: getenv",
        "1: package ", "1: protected ",
    };
    private static final Set<String> IMPORTS = Set.of("java.util.ArrayList", "java.util.Arrays", "java.util.Iterator",
            "java.util.List", "java.util.NoSuchElementException");
    private static final Set<Class<?>> LIBRARY_FIELDS =
            Set.of(String.class, StringBuilder.class, ArrayList.class, List.class);
    private static final Set<String> THROWN = Set.of("IllegalStateException", "IllegalArgumentException",
            "IndexOutOfBoundsException", "UnsupportedOperationException", "NoSuchElementException");

    public static void main(String[] args) throws IOException {
        String source = Files.readString(SOURCE);
        String code = withoutTexts(source);
        Check.same("signs above 127", 0, source.chars().filter(sign -> sign > 127).count());
        for (String ruled : RULED_OUT) {
            int at = ruled.indexOf(": ");
            Check.same("rule " + ruled, false, code.contains(ruled.substring(at + 2)));
        }
        libraries(code);
        thrown(code);
        methodLengths(code);
        classes();
        Check.end();
    }

    /** Leaves comments out, and of texts and signs the marks alone. */
    private static String withoutTexts(String source) {
        return NOT_CODE.matcher(source).replaceAll(
                found -> found.group(1) != null ? "\"\"" : found.group(2) != null ? "' '" : "");
    }

    private static void libraries(String code) {
        for (Matcher found = Pattern.compile("import ([^;]+);").matcher(code); found.find();) {
            Check.same("rule 4: import " + found.group(1), true, IMPORTS.contains(found.group(1)));
        }
        for (Matcher found = Pattern.compile("System\\.(\\w+)").matcher(code); found.find();) {
            Check.same("rule 4", "arraycopy", found.group(1));
        }
        Set<String> maths = Set.of("max", "min", "abs", "floorMod", "floorDiv");
        for (Matcher found = Pattern.compile("\\bMath\\.(\\w+)").matcher(code); found.find();) {
            Check.same("rule 4: Math." + found.group(1), true, maths.contains(found.group(1)));
        }
    }

    private static void thrown(String code) {
        for (Matcher found = Pattern.compile("\\bthrow\\b([^;]*);").matcher(code); found.find();) {
            Matcher made = Pattern.compile(" new (\\w+)\\((\"\")?\\)").matcher(found.group(1));
            Check.same("rule 6: " + found.group(), true, made.matches() && THROWN.contains(made.group(1)));
        }
    }

    /** A method ends with the brace that stands below its first line. */
    private static void methodLengths(String code) {
        Pattern method = Pattern.compile("^( +)[^ \n][^;={}]*\\([^;={}]*\\{\n(.*?)^\\1\\}",
                Pattern.DOTALL | Pattern.MULTILINE);
        int longest = 0;
        for (Matcher found = method.matcher(code); found.find();) {
            longest = Math.max(longest, (int) found.group().lines().count());
        }
        Check.same("rule 11: a method of " + longest + " lines", true, longest > 10 && longest <= 60);
    }

    private static void classes() {
        List<Class<?>> all = new ArrayList<>(List.of(Triplane.class.getDeclaredClasses()));
        for (Class<?> inner : all) {
            boolean isOpen = Modifier.isPublic(inner.getModifiers()) || Modifier.isProtected(inner.getModifiers());
            Check.same("rule 1: " + inner, false, isOpen);
            Check.same("rule 2: " + inner, true, Modifier.isStatic(inner.getModifiers()));
        }
        all.add(Triplane.class);
        Check.same("rule 11: classes", true, all.size() <= 12);
        for (Class<?> one : all) {
            int own = 0;
            for (Field field : one.getDeclaredFields()) {
                if (Modifier.isStatic(field.getModifiers())) {
                    Check.same("rule 5: " + field, true, Modifier.isFinal(field.getModifiers()));
                } else {
                    own++;
                }
                fieldType(field, all);
            }
            Check.same("rule 11: fields of " + one, true, own <= 20);
            for (Method method : one.getDeclaredMethods()) {
                Check.same("rule 11: " + method, true, method.getParameterCount() <= 7);
            }
        }
    }

    private static void fieldType(Field field, List<Class<?>> own) {
        Class<?> type = field.getType();
        int dimensions = 0;
        while (type.isArray()) {
            type = type.getComponentType();
            dimensions++;
        }
        boolean isNumber = type.isPrimitive() && dimensions <= (type == boolean.class ? 1 : 2);
        boolean isOwn = own.contains(type) && dimensions <= 1;
        boolean isLibrary = dimensions == 0 && LIBRARY_FIELDS.contains(type);
        Check.same("rule 3: " + field, true, isNumber || isOwn || isLibrary);
    }
}
