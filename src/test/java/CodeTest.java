/** Promises 2 to 4: code, clear and slot, and what each kind of instruction does. */
final class CodeTest {
    public static void main(String[] args) {
        counts();
        clears();
        slots();
        kinds();
        numbersGoRound();
        jumps();
        registersBeginAtZero();
        partitionsAreApart();
        Check.end();
    }

    private static void counts() {
        Triplane x = new Triplane();
        for (int i = 1; i <= 10; i++) {
            Check.same("code", i, x.code(2, 'l', 0, 1));
        }
        Check.same("code of another partition", 1, x.code(1, 'l', 0, 1));
        Check.refuses("the eleventh", IllegalStateException.class, x, () -> x.code(2, 'l', 0, 1));
        Check.same("clear of a full one", 10, x.clear(2));
        Check.same("code behind a clear", 1, x.code(2, 'l', 0, 1));
    }

    private static void clears() {
        Triplane x = Check.running("l0 5", "o0 0");
        x.frame();
        Check.same("clear", 2, x.clear(0));
        Check.same("clear of an empty one", 0, x.clear(0));
        x.code(0, 'l', 0, 7);
        x.frame();
        Check.same("the old code is gone", 5, x.output(0));
        Check.refuses("clear", IndexOutOfBoundsException.class, x, () -> x.clear(3));
        Check.refuses("clear", IndexOutOfBoundsException.class, x, () -> x.clear(-1));
    }

    private static void slots() {
        Triplane x = new Triplane();
        Check.same("slot", -1, x.slot(1, 2, 2));
        Check.same("slot", 2, x.slot(1, 2, 0));
        Check.same("slot", 0, x.slot(1, 2, -1));
        Check.same("slot", -1, x.slot(1, 2, 1));
        Check.same("the same slot of the other mode", -1, x.slot(0, 2, -1));
        Check.refuses("mode 2", IndexOutOfBoundsException.class, x, () -> x.slot(2, 0, 0));
        Check.refuses("mode -1", IndexOutOfBoundsException.class, x, () -> x.slot(-1, 0, 0));
        Check.refuses("slot 3", IndexOutOfBoundsException.class, x, () -> x.slot(0, 3, 0));
        Check.refuses("slot -1", IndexOutOfBoundsException.class, x, () -> x.slot(0, -1, 0));
        Check.refuses("partition 3", IndexOutOfBoundsException.class, x, () -> x.slot(1, 2, 3));
        Check.refuses("partition -2", IndexOutOfBoundsException.class, x, () -> x.slot(1, 2, -2));
        Check.same("a refused one sets nothing", 1, x.slot(1, 2, -1));
    }

    private static void kinds() {
        Triplane x = Check.running("l0 5", "l1 3", "a0 1", "o0 0", "s1 0", "o1 1", "m1 4", "r2 4", "o2 2", "i3 3");
        x.read(3, 40, 30, 50);
        x.slot(0, 1, 1);
        Check.write(x, 1, "i2 3", "o2 3");
        x.frame();
        Check.same("l and a", 8, x.output(0));
        Check.same("s", -5, x.output(1));
        Check.same("m", -5, x.word(2, 0, 4));
        Check.same("r", -5, x.output(2));
        Check.same("i and o", 40, x.output(3));
        Check.same("all as the plain one", true, x.isPlain());
    }

    private static void numbersGoRound() {
        Triplane x = Check.running("l0 32767", "l1 1", "a0 1", "o0 0", "l2 -32768", "s2 1", "o2 1", "a2 2", "o2 2");
        x.frame();
        Check.same("above", -32768, x.output(0));
        Check.same("below", 32767, x.output(1));
        Check.same("twice the greatest", -2, x.output(2));
    }

    private static void jumps() {
        Triplane x = Check.running("l0 1", "j0 3", "l0 9", "o0 0", "l1 0", "j1 9", "o0 1", "l2 -1", "j2 0", "o0 2");
        x.frame();
        Check.same("a jump above 0", 1, x.output(0));
        Check.same("no jump at 0", 1, x.output(1));
        Check.same("no jump below 0", 1, x.output(2));
        Triplane y = Check.running("l0 4", "o0 0", "j0 9", "l0 5", "o0 0");
        y.frame();
        Check.same("a jump behind the last one ends it", 4, y.output(0));
        Check.same("which is no overrun", 0, y.overruns(0));
    }

    private static void registersBeginAtZero() {
        Triplane x = Check.running("o0 0", "o1 1", "l0 7", "l1 8");
        x.slot(0, 1, 0);
        x.frame();
        x.frame();
        Check.same("register 0", 0, x.output(0));
        Check.same("register 1", 0, x.output(1));
    }

    private static void partitionsAreApart() {
        Triplane x = Check.running("l0 7", "m0 0");
        x.slot(0, 1, 1);
        Check.write(x, 1, "r0 0", "o0 0", "l0 9", "m0 0", "m0 5");
        x.slot(0, 2, 2);
        Check.write(x, 2, "r0 0", "o0 1");
        x.frame();
        Check.same("the word 0 of partition 1", 0, x.output(0));
        Check.same("the word 0 of partition 2", 0, x.output(1));
        Check.same("partition 0", 7, x.word(0, 0, 0));
        Check.same("partition 1", 9, x.word(0, 1, 0));
        Check.same("partition 1", 9, x.word(0, 1, 5));
        Check.same("partition 2", 0, x.word(0, 2, 0));
    }
}
