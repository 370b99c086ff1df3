/** Promises 15 and 16: votes, strikes, and being shut off for them. */
final class VoteTest {
    public static void main(String[] args) {
        twoOfThree();
        threeUnlike();
        ofTwo();
        ofOne();
        nothingIsGivenToo();
        shutOffBehindTheBeat();
        strikesStay();
        Check.end();
    }

    private static void twoOfThree() {
        for (int odd = 0; odd < 3; odd++) {
            Triplane x = Check.running("l0 6", "o0 0");
            x.stick(odd, 0, 0, true);
            Check.same("frame", 3, x.frame());
            Check.same("taken", 6, x.output(0));
            for (int i = 0; i < 3; i++) {
                Check.same("strikes of " + i, i == odd ? 1 : 0, x.strikes(i));
                Check.same("on", true, x.isOn(i));
            }
        }
    }

    private static void threeUnlike() {
        Triplane x = Check.running("l0 8", "o0 0");
        x.stick(0, 0, 0, true);
        x.stick(1, 0, 1, true);
        x.frame();
        Check.same("nothing taken", 0, x.output(0));
        for (int i = 0; i < 3; i++) {
            Check.same("a strike each", 1, x.strikes(i));
        }
    }

    private static void ofTwo() {
        Triplane x = Check.running("l0 8", "o0 0");
        x.shut(1);
        x.frame();
        Check.same("both give it", 8, x.output(0));
        x.stick(2, 0, 0, true);
        x.clear(0);
        Check.write(x, 0, "l0 4", "o0 0");
        x.frame();
        Check.same("nothing taken", 8, x.output(0));
        Check.same("strikes", 1, x.strikes(0));
        Check.same("of one that is off", 0, x.strikes(1));
        Check.same("strikes", 1, x.strikes(2));
    }

    private static void ofOne() {
        Triplane x = Check.running("l0 8", "o0 0");
        x.shut(0);
        x.shut(1);
        x.stick(2, 0, 0, true);
        x.frame();
        Check.same("what it gives", 9, x.output(0));
        Check.same("no strike", 0, x.strikes(2));
    }

    private static void nothingIsGivenToo() {
        // The bit lets the computer 1 jump past the output, so it gives nothing in the beat 2.
        Triplane x = Check.running("j0 3", "l1 5", "o1 0");
        x.stick(1, 0, 0, true);
        x.frame();
        Check.same("taken of the two", 5, x.output(0));
        Check.same("a strike for nothing", 1, x.strikes(1));
        // Two of three are done: the third one's output is not taken, and is its strike.
        Triplane y = Check.running("j0 3", "l1 5", "o1 0");
        y.stick(1, 0, 0, true);
        y.stick(2, 0, 0, true);
        y.frame();
        Check.same("nothing taken", 0, y.output(0));
        Check.same("the strike", 1, y.strikes(0));
        Check.same("of those done", 0, y.strikes(1) + y.strikes(2));
        // The same number for another output is unlike.
        Triplane z = Check.running("j0 2", "o1 0", "o1 1");
        z.stick(1, 0, 0, true);
        z.frame();
        Check.same("strikes for another output, then for nothing", 2, z.strikes(1));
    }

    private static void shutOffBehindTheBeat() {
        // All three are at 2 strikes, so the third one shuts all off; the beat's output isn't taken.
        Triplane x = Check.running("l0 8", "o0 0");
        x.stick(0, 0, 0, true);
        x.stick(1, 0, 1, true);
        Check.same("frame 1", 3, x.frame());
        Check.same("frame 2", 3, x.frame());
        Check.same("frame 3", 0, x.frame());
        Check.same("in their order", "3:2v 3:1v 3:0v", Check.lines(x));
        Check.same("three strikes", 3, x.strikes(0));
        Check.same("not taken", 0, x.output(0));
        // One that is shut off in a beat does nothing in the next one.
        Triplane y = Check.running("l0 8", "o0 0", "o0 0", "o0 0", "o0 0", "m0 0");
        y.stick(1, 0, 0, true);
        Check.same("frame", 2, y.frame());
        Check.same("no more strikes", 3, y.strikes(1));
        Check.same("no more writing", 0, y.word(1, 0, 0));
        Check.same("the others write", 8, y.word(0, 0, 0));
        Check.same("the log", "1:1v", Check.lines(y));
    }

    private static void strikesStay() {
        Triplane x = Check.running("l0 8", "o0 0");
        x.stick(1, 0, 0, true);
        x.frame();
        x.fix(1);
        x.frame();
        Check.same("a strike stays", 1, x.strikes(1));
        x.shut(1);
        Check.same("off too", 1, x.strikes(1));
    }
}
