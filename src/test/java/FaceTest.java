import java.lang.reflect.Constructor;
import java.lang.reflect.Field;
import java.lang.reflect.Method;
import java.lang.reflect.Modifier;
import java.util.TreeSet;

/** Promise 1, and the face as the document writes it. */
final class FaceTest {
    private static final String[] FACE = {
        "int arm(char) IllegalArgumentException",
        "int agreed(int) IndexOutOfBoundsException",
        "int back(int) IndexOutOfBoundsException UnsupportedOperationException",
        "long checksum()",
        "int clear(int) IndexOutOfBoundsException",
        "int clock(int) IndexOutOfBoundsException",
        "int code(int,char,int,int) IndexOutOfBoundsException IllegalArgumentException IllegalStateException",
        "int drift(int,int) IndexOutOfBoundsException IllegalArgumentException",
        "int fault(int,int,int) IndexOutOfBoundsException IllegalArgumentException",
        "boolean fix(int) IndexOutOfBoundsException",
        "int flip(int,int,int,int) IndexOutOfBoundsException",
        "int frame()",
        "int give(char) IllegalArgumentException UnsupportedOperationException",
        "boolean hasLetGo(int) IndexOutOfBoundsException",
        "boolean isOn(int) IndexOutOfBoundsException",
        "boolean isPlain()",
        "boolean isTrue()",
        "int lie(int,int,int) IndexOutOfBoundsException IllegalArgumentException",
        "int limit(int,int) IndexOutOfBoundsException IllegalArgumentException",
        "int line(int,char) IllegalArgumentException NoSuchElementException",
        "int load(int) IndexOutOfBoundsException NoSuchElementException",
        "double meanOutput()",
        "int mended(int) IndexOutOfBoundsException",
        "int mode()",
        "float onShare()",
        "int output(int) IndexOutOfBoundsException",
        "int overruns(int) IndexOutOfBoundsException",
        "int plain(int) IndexOutOfBoundsException",
        "int position(int) IndexOutOfBoundsException",
        "int read(int,int,int,int) IndexOutOfBoundsException IllegalArgumentException",
        "int save(int,boolean) IndexOutOfBoundsException UnsupportedOperationException",
        "int shut(int) IndexOutOfBoundsException UnsupportedOperationException",
        "int slot(int,int,int) IndexOutOfBoundsException",
        "boolean stick(int,int,int,boolean) IndexOutOfBoundsException",
        "int strikes(int) IndexOutOfBoundsException",
        "boolean test(int) IndexOutOfBoundsException UnsupportedOperationException",
        "int time()",
        "int word(int,int,int) IndexOutOfBoundsException",
    };

    public static void main(String[] args) {
        faceIsTheDocuments();
        newObject();
        Check.end();
    }

    private static void faceIsTheDocuments() {
        TreeSet<String> open = new TreeSet<>();
        TreeSet<String> hidden = new TreeSet<>();
        TreeSet<String> openNames = new TreeSet<>();
        for (Method method : Triplane.class.getDeclaredMethods()) {
            if (Modifier.isPublic(method.getModifiers())) {
                open.add(faceOf(method));
                openNames.add(method.getName());
            } else {
                hidden.add(method.getName());
                Check.same(method + " is private", true, Modifier.isPrivate(method.getModifiers()));
            }
        }
        Check.same("the face", new TreeSet<>(java.util.List.of(FACE)).toString(), open.toString());
        hidden.retainAll(openNames);
        Check.same("private methods with public names", "[]", hidden.toString());
        for (Field field : Triplane.class.getDeclaredFields()) {
            Check.same(field + " is private", true, Modifier.isPrivate(field.getModifiers()));
        }
        Constructor<?>[] constructors = Triplane.class.getDeclaredConstructors();
        Check.same("constructors", 1, constructors.length);
        Check.same("the constructor is public", true, Modifier.isPublic(constructors[0].getModifiers()));
        Check.same("the class is final", true, Modifier.isFinal(Triplane.class.getModifiers()));
    }

    private static String faceOf(Method method) {
        StringBuilder text = new StringBuilder();
        text.append(method.getReturnType().getName()).append(' ').append(method.getName()).append('(');
        for (int i = 0; i < method.getParameterCount(); i++) {
            text.append(i == 0 ? "" : ",").append(method.getParameterTypes()[i].getName());
        }
        text.append(')');
        for (Class<?> thrown : method.getExceptionTypes()) {
            text.append(' ').append(thrown.getSimpleName());
        }
        return text.toString();
    }

    private static void newObject() {
        Triplane x = new Triplane();
        for (int i = 0; i < 3; i++) {
            Check.same("computer " + i + " is on", true, x.isOn(i));
            Check.same("strikes at first", 0, x.strikes(i));
            Check.same("mended at first", 0, x.mended(i));
            Check.same("clock at first", 0, x.clock(i));
            Check.same("overruns at first", 0, x.overruns(i));
            Check.same("code at first", 0, x.clear(i));
            for (int word = 0; word < 18; word++) {
                Check.same("word at first", 0, x.word(i, word / 6, word % 6));
            }
        }
        for (int i = 0; i < 6; i++) {
            Check.same("slot at first", -1, x.slot(i / 3, i % 3, -1));
        }
        for (int i = 0; i < 4; i++) {
            Check.same("output at first", 0, x.output(i));
            Check.same("plain at first", 0, x.plain(i));
            Check.same("agreed at first", 0, x.agreed(i));
            Check.same("limit at first", 32767, x.limit(i, 32767));
            Check.same("position at first", 0, x.position(i));
            Check.same("has let go at first", false, x.hasLetGo(i));
        }
        Check.same("time at first", 0, x.time());
        Check.same("mode at first", 0, x.mode());
        Check.same("log at first", "", Check.lines(x));
        Check.same("true at first", true, x.isTrue());
        Check.same("an empty frame", 3, x.frame());
    }
}
