/** Promises 17 to 19: shut, test and back. */
final class ShutTest {
    public static void main(String[] args) {
        shuts();
        tests();
        brings();
        Check.end();
    }

    private static void shuts() {
        Triplane x = new Triplane();
        x.frame();
        Check.same("shut", 2, x.shut(1));
        Check.same("off", false, x.isOn(1));
        Check.refuses("shut again", UnsupportedOperationException.class, x, () -> x.shut(1));
        Check.same("shut", 1, x.shut(2));
        Check.same("shut", 0, x.shut(0));
        Check.same("the log", "1:0h 1:2h 1:1h", Check.lines(x));
    }

    private static void tests() {
        Triplane x = new Triplane();
        Check.refuses("test of one that is on", UnsupportedOperationException.class, x, () -> x.test(0));
        x.shut(0);
        x.stick(0, 0, 0, true);
        Check.same("one with a bit that sticks", false, x.test(0));
        Check.refuses("and it is not tested", UnsupportedOperationException.class, x, () -> x.back(0));
        x.fix(0);
        Check.refuses("a fix is no test", UnsupportedOperationException.class, x, () -> x.back(0));
        Check.same("passes", true, x.test(0));
        Check.same("passes again", true, x.test(0));
        Check.same("still off", false, x.isOn(0));
        Check.same("back", 3, x.back(0));
    }

    private static void brings() {
        Triplane x = Check.running("l0 8", "o0 0", "m0 1");
        x.stick(0, 0, 0, true);
        x.drift(1, 4);
        x.frame();
        x.frame();
        Check.same("three strikes", 2, x.frame());
        Check.same("off for them", "3:0v", Check.lines(x));
        x.fix(0);
        x.test(0);
        x.frame();
        x.flip(0, 2, 2, 3);
        x.flip(0, 2, 2, 4);
        x.flip(1, 1, 1, 5);
        Check.same("its word", 9, x.word(0, 0, 1));
        Check.same("its clock", 0, x.clock(0));
        Check.same("back", 3, x.back(0));
        Check.same("on", true, x.isOn(0));
        Check.same("the word of the other one", 8, x.word(0, 0, 1));
        Check.same("a word with flips", 0, x.word(0, 2, 2));
        Check.same("flips of it are gone", 1, x.flip(0, 2, 2, 3));
        Check.same("without the other one's flips", 0, x.word(0, 1, 1));
        Check.same("which has them still", 32, x.word(1, 1, 1));
        Check.same("strikes", 0, x.strikes(0));
        Check.same("the clock of the other one", x.clock(1), x.clock(0));
        Check.same("which is not 0", true, x.clock(1) != 0);
        Check.same("the log", "4:0b 3:0v", Check.lines(x));
        Check.refuses("back again", UnsupportedOperationException.class, x, () -> x.back(0));
    }
}
