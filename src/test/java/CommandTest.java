/** Promises 33 and 34, and 7: commands in two steps. */
final class CommandTest {
    public static void main(String[] args) {
        modes();
        inTime();
        tooLate();
        onceOnly();
        anotherOneTakesThePlace();
        armedAnew();
        Check.end();
    }

    private static void modes() {
        Triplane x = new Triplane();
        Check.same("arm", 3, x.arm('m'));
        Check.same("arming changes no mode", 0, x.mode());
        Check.same("give", 1, x.give('m'));
        Check.same("at once", 1, x.mode());
        x.arm('m');
        Check.same("give", 0, x.give('m'));
        Check.same("mode", 0, x.mode());
        Check.same("arm a", 3, x.arm('a'));
        Check.same("give a", 0, x.give('a'));
        Check.same("which changes no mode", 0, x.mode());
    }

    private static void inTime() {
        Triplane x = new Triplane();
        Check.frames(x, 2);
        Check.same("arm", 5, x.arm('m'));
        Check.frames(x, 3);
        Check.same("3 frames later", 1, x.give('m'));
    }

    private static void tooLate() {
        Triplane x = new Triplane();
        x.arm('m');
        Check.frames(x, 4);
        Check.refuses("4 frames later", UnsupportedOperationException.class, x, () -> x.give('m'));
        x.arm('a');
        Check.frames(x, 4);
        Check.refuses("4 frames later", UnsupportedOperationException.class, x, () -> x.give('a'));
    }

    private static void onceOnly() {
        Triplane x = new Triplane();
        Check.refuses("never armed", UnsupportedOperationException.class, x, () -> x.give('m'));
        Check.refuses("never armed", UnsupportedOperationException.class, x, () -> x.give('a'));
        x.arm('m');
        x.give('m');
        Check.refuses("given already", UnsupportedOperationException.class, x, () -> x.give('m'));
        x.arm('a');
        x.give('a');
        Check.refuses("given already", UnsupportedOperationException.class, x, () -> x.give('a'));
    }

    private static void anotherOneTakesThePlace() {
        Triplane x = new Triplane();
        x.arm('m');
        x.arm('a');
        Check.refuses("m is armed no more", UnsupportedOperationException.class, x, () -> x.give('m'));
        Check.same("a still is", 0, x.give('a'));
        Check.refuses("nor is m then", UnsupportedOperationException.class, x, () -> x.give('m'));
    }

    private static void armedAnew() {
        Triplane x = new Triplane();
        x.arm('m');
        Check.frames(x, 3);
        Check.same("arm anew", 6, x.arm('m'));
        Check.frames(x, 3);
        Check.same("from the later one on", 1, x.give('m'));
        Check.refuses("but only once", UnsupportedOperationException.class, x, () -> x.give('m'));
    }
}
