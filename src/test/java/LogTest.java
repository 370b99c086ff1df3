import java.util.NoSuchElementException;

/** Promise 35: the log. */
final class LogTest {
    public static void main(String[] args) {
        lines();
        refusals();
        Check.end();
    }

    private static void lines() {
        Triplane x = new Triplane();
        x.frame();
        x.shut(2);
        x.frame();
        x.test(2);
        x.back(2);
        Check.same("time", 2, x.line(0, 't'));
        Check.same("computer", 2, x.line(0, 'c'));
        Check.same("letter", 'b', x.line(0, 'r'));
        Check.same("time of the older one", 1, x.line(1, 't'));
        Check.same("computer of the older one", 2, x.line(1, 'c'));
        Check.same("letter of the older one", 'h', x.line(1, 'r'));
    }

    private static void refusals() {
        Triplane x = new Triplane();
        Check.refuses("an empty log", NoSuchElementException.class, x, () -> x.line(0, 't'));
        x.shut(0);
        Check.refuses("no such line", NoSuchElementException.class, x, () -> x.line(1, 't'));
        Check.refuses("no such line", NoSuchElementException.class, x, () -> x.line(-1, 'c'));
        Check.refuses("no such line", NoSuchElementException.class, x, () -> x.line(Integer.MAX_VALUE, 'r'));
        Check.refuses("no such line", NoSuchElementException.class, x, () -> x.line(Integer.MIN_VALUE, 'r'));
        Check.refuses("no such thing", IllegalArgumentException.class, x, () -> x.line(0, 'x'));
        Check.refuses("neither", IllegalArgumentException.class, x, () -> x.line(5, 'T'));
    }
}
