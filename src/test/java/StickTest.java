/** Promises 13 and 14: bits that stick, and fixing. */
final class StickTest {
    public static void main(String[] args) {
        answers();
        sticksWheneverItBecomesSomething();
        sticksAsTheSlotBegins();
        theSign();
        Check.end();
    }

    private static void answers() {
        Triplane x = new Triplane();
        Check.same("fix without one", false, x.fix(0));
        Check.same("stick", false, x.stick(0, 3, 15, true));
        Check.same("stick again", true, x.stick(0, 3, 15, true));
        Check.same("another computer", false, x.stick(1, 0, 0, false));
        Check.same("fix", true, x.fix(0));
        Check.same("fix again", false, x.fix(0));
        Check.same("the other one still", true, x.fix(1));
        Check.same("stick behind a fix", false, x.stick(0, 3, 15, true));
    }

    private static Triplane alone(String... instructions) {
        Triplane x = Check.running(instructions);
        x.shut(1);
        x.shut(2);
        return x;
    }

    private static void sticksWheneverItBecomesSomething() {
        Triplane x = alone("l0 5", "o0 0", "l1 1", "a0 1", "o0 1", "s0 1", "o0 2", "m0 2", "r0 2", "o0 3");
        x.stick(0, 0, 1, true);
        x.frame();
        Check.same("l", 7, x.output(0));
        Check.same("a", 10, x.output(1));
        Check.same("s", 11, x.output(2));
        Check.same("m", 11, x.word(0, 0, 2));
        Check.same("r", 11, x.output(3));
        x.fix(0);
        x.frame();
        Check.same("fixed", 5, x.output(0));
        Triplane y = alone("i0 1", "o0 0", "i1 1", "o1 1");
        y.read(1, 6, 6, 6);
        y.stick(0, 0, 2, false);
        y.frame();
        Check.same("i", 2, y.output(0));
        Check.same("another register", 6, y.output(1));
    }

    private static void sticksAsTheSlotBegins() {
        Triplane x = alone("o2 0");
        x.stick(0, 2, 4, true);
        Check.same("not ahead of it", 0, x.output(0));
        x.frame();
        Check.same("a register of 0", 16, x.output(0));
        x.slot(0, 0, 1);
        Check.write(x, 1, "o2 1");
        x.frame();
        Check.same("in all partitions", 16, x.output(1));
    }

    private static void theSign() {
        Triplane x = alone("l0 5", "o0 0", "l0 -5", "o0 1");
        x.stick(0, 0, 15, true);
        x.frame();
        Check.same("the bit 15 set", -32763, x.output(0));
        Check.same("set already", -5, x.output(1));
        x.stick(0, 0, 15, false);
        x.frame();
        Check.same("not set already", 5, x.output(0));
        Check.same("the bit 15 not set", 32763, x.output(1));
    }
}
