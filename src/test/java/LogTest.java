import java.util.NoSuchElementException;

/** Promise 35: the log. */
final class LogTest {
    public static void main(String[] args) {
        lines();
        theLatestThirty();
        refusals();
        Check.end();
    }

    private static void lines() {
        Triplane x = new Triplane();
        x.frame();
        x.shut(2);
        x.frame();
        x.test(2);
        x.back(2);
        Check.same("time", 2, x.line(0, 't'));
        Check.same("computer", 2, x.line(0, 'c'));
        Check.same("letter", 'b', x.line(0, 'r'));
        Check.same("time of the older one", 1, x.line(1, 't'));
        Check.same("computer of the older one", 2, x.line(1, 'c'));
        Check.same("letter of the older one", 'h', x.line(1, 'r'));
    }

    private static void theLatestThirty() {
        Triplane x = new Triplane();
        StringBuilder all = new StringBuilder();
        for (int i = 0; i < 20; i++) {
            int computer = i % 3;
            x.frame();
            x.shut(computer);
            x.test(computer);
            x.back(computer);
            int time = i + 1;
            all.insert(0, time + ":" + computer + "b " + time + ":" + computer + "h ");
            String[] due = all.toString().trim().split(" ");
            String kept = String.join(" ", java.util.Arrays.copyOf(due, Math.min(due.length, 30)));
            Check.same("the log behind " + (2 * i + 2), kept, Check.lines(x));
            Check.same("true", true, x.isTrue());
        }
        Check.same("the oldest one kept", 6, x.line(29, 't'));
        Check.refuses("line 30", NoSuchElementException.class, x, () -> x.line(30, 't'));
    }

    private static void refusals() {
        Triplane x = new Triplane();
        Check.refuses("an empty log", NoSuchElementException.class, x, () -> x.line(0, 't'));
        x.shut(0);
        Check.refuses("no such line", NoSuchElementException.class, x, () -> x.line(1, 't'));
        Check.refuses("no such line", NoSuchElementException.class, x, () -> x.line(-1, 'c'));
        Check.refuses("no such line", NoSuchElementException.class, x, () -> x.line(Integer.MAX_VALUE, 'r'));
        Check.refuses("no such line", NoSuchElementException.class, x, () -> x.line(Integer.MIN_VALUE, 'r'));
        Check.refuses("no such thing", IllegalArgumentException.class, x, () -> x.line(0, 'x'));
        Check.refuses("neither", IllegalArgumentException.class, x, () -> x.line(5, 'T'));
    }
}
