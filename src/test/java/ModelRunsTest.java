import java.lang.reflect.InvocationTargetException;
import java.lang.reflect.Method;
import java.util.ArrayList;
import java.util.List;
import java.util.Random;
import java.util.TreeMap;

/** Runs of 512 calls, chosen by fixed seeds, of which Triplane and Model answer each alike. */
final class ModelRunsTest {
    private static final int RUNS = 3000;
    private static final int CALLS = 512;
    /** How often a call is chosen; one that does not stand here counts 2. */
    private static final String[] OFTEN = {
        "frame", "70", "code", "40", "slot", "10", "clear", "3", "flip", "10", "stick", "2", "fix", "8", "shut", "1",
        "test", "12", "back", "12", "read", "10", "limit", "3", "lie", "4", "drift", "4", "save", "4", "load", "4",
        "fault", "4", "arm", "8", "give", "10", "checksum", "6",
    };

    private final Random random;
    private final Triplane triplane = new Triplane();
    private final Model model = new Model();
    private final StringBuilder calls = new StringBuilder();
    /** How many of a hundred arguments are wrong ones. */
    private final int wrongShare;

    private ModelRunsTest(int seed) {
        random = new Random(seed);
        wrongShare = seed % 3 == 0 ? 6 : 0;
    }

    public static void main(String[] args) throws ReflectiveOperationException {
        List<Method> choices = choices();
        TreeMap<String, Integer> answers = new TreeMap<>();
        for (int seed = 0; seed < RUNS; seed++) {
            new ModelRunsTest(seed).run(seed, choices, answers);
        }
        everyAnswerWasMet(answers);
        Check.end();
    }

    private static List<Method> choices() {
        List<Method> all = new ArrayList<>();
        TreeMap<String, Method> byName = new TreeMap<>();
        for (Method method : Triplane.class.getDeclaredMethods()) {
            if (java.lang.reflect.Modifier.isPublic(method.getModifiers())) {
                byName.put(method.getName(), method);
            }
        }
        List<String> often = List.of(OFTEN);
        for (Method method : byName.values()) {
            int at = often.indexOf(method.getName());
            int times = at < 0 ? 2 : Integer.parseInt(often.get(at + 1));
            for (int i = 0; i < times; i++) {
                all.add(method);
            }
        }
        return all;
    }

    /** Keeps the runs from missing whole kinds of answers: each call answers, and refuses if it can. */
    private static void everyAnswerWasMet(TreeMap<String, Integer> answers) {
        for (Method method : Triplane.class.getDeclaredMethods()) {
            if (java.lang.reflect.Modifier.isPublic(method.getModifiers())) {
                Check.same(method.getName() + " answered", true, answers.containsKey(method.getName()));
                for (Class<?> thrown : method.getExceptionTypes()) {
                    String key = method.getName() + " " + thrown.getName();
                    Check.same(key + " was met", true, answers.containsKey(key));
                }
            }
        }
    }

    private void run(int seed, List<Method> choices, TreeMap<String, Integer> answers)
            throws ReflectiveOperationException {
        for (int i = 0; i < CALLS; i++) {
            Method method = choices.get(random.nextInt(choices.size()));
            Object[] arguments = arguments(method);
            calls.append(method.getName()).append(java.util.Arrays.toString(arguments)).append('\n');
            String due = answer(Model.class.getMethod(method.getName(), method.getParameterTypes()), model, arguments);
            String got = answer(method, triplane, arguments);
            boolean isRefused = due.startsWith("java.");
            answers.merge(isRefused ? method.getName() + " " + due : method.getName(), 1, Integer::sum);
            if (!due.equals(got)) {
                Check.report("run " + seed + ", call " + i + ": due is " + due + ", answered " + got + ", behind\n"
                        + calls);
                return;
            }
        }
    }

    private static String answer(Method method, Object object, Object[] arguments) throws ReflectiveOperationException {
        try {
            return String.valueOf(method.invoke(object, arguments));
        } catch (InvocationTargetException e) {
            return e.getCause().getClass().getName();
        }
    }

    private Object[] arguments(Method method) {
        Class<?>[] types = method.getParameterTypes();
        Object[] arguments = new Object[types.length];
        for (int i = 0; i < types.length; i++) {
            if (types[i] == boolean.class) {
                arguments[i] = random.nextInt(3) == 0;
            } else if (types[i] == char.class) {
                arguments[i] = letter(method.getName());
            } else {
                arguments[i] = random.nextInt(100) < wrongShare ? wrong() : number(method.getName(), i, arguments);
            }
        }
        return arguments;
    }

    private char letter(String name) {
        String letters = name.equals("code") ? "llasmmrriooojj" : name.equals("line") ? "tcr" : "ma";
        return random.nextInt(100) < wrongShare ? 'x' : letters.charAt(random.nextInt(letters.length()));
    }

    private int wrong() {
        int[] wrongs = {-1, -2, 3, 4, 6, 10, 16, 1000, -1000, 32768, -32769, Integer.MAX_VALUE, Integer.MIN_VALUE};
        return wrongs[random.nextInt(wrongs.length)];
    }

    private int number(String name, int i, Object[] before) {
        switch (name) {
            case "code":
                return i == 0 ? random.nextInt(3) : i == 2 ? register() : forKind((Character) before[1]);
            case "slot":
                return i == 0 ? random.nextInt(2) : i == 1 ? random.nextInt(3) : random.nextInt(4) - 1;
            case "word":
                return random.nextInt(i == 2 ? 6 : 3);
            case "flip":
                return random.nextInt(i == 3 ? 16 : 3);
            case "stick":
                return i == 0 ? random.nextInt(3) : i == 1 ? register() : random.nextInt(16);
            case "read":
                return i == 0 ? random.nextInt(4) : value();
            case "limit":
                return i == 0 ? random.nextInt(4) : of(32766, 32767, random.nextInt(60), random.nextInt(60));
            case "drift":
                return i == 0 ? random.nextInt(3) : random.nextInt(19) - 9;
            case "lie":
                return i < 2 ? random.nextInt(3) : of(-999, 999, random.nextInt(1999) - 999);
            case "fault":
                return i == 0 ? random.nextInt(4) : i == 1 ? random.nextInt(3) : fault();
            case "line":
                return random.nextInt(random.nextBoolean() ? 3 : 33);
            case "output":
            case "plain":
            case "agreed":
            case "position":
            case "hasLetGo":
                return random.nextInt(4);
            default:
                return random.nextInt(3);
        }
    }

    /** Mostly the first two, so that instructions meet in one register. */
    private int register() {
        return random.nextInt(4) == 0 ? random.nextInt(4) : random.nextInt(2);
    }

    private int value() {
        int any = random.nextInt(65536) - 32768;
        int edge = of(-32768, -32767, -1, 0, 1, 32766, 32767);
        return random.nextInt(4) == 0 ? of(any, edge) : random.nextInt(41) - 20;
    }

    private int fault() {
        int edge = of(-999, -51, -50, 49, 50, 51, 999);
        return random.nextInt(4) == 0 ? of(edge, random.nextInt(1999) - 999) : random.nextInt(80) - 40;
    }

    private int of(int... choices) {
        return choices[random.nextInt(choices.length)];
    }

    private int forKind(char kind) {
        switch (kind) {
            case 'l':
                return value();
            case 'm':
            case 'r':
                return random.nextInt(random.nextBoolean() ? 3 : 6);
            case 'j':
                return random.nextInt(10);
            default:
                return random.nextInt(4);
        }
    }
}
