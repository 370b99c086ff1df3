/** The edges of 'Votes'. */
final class VoteEdgeTest {
    public static void main(String[] args) {
        doneOnesGiveNothing();
        twoAreLeftInTheBeat();
        oneIsLeftInTheBeat();
        threeAlike();
        oneOddOfThree();
        twoGiveNothing();
        unlikeNumbers();
        unlikeWithNothing();
        unlikeOutputs();
        ofTwo();
        ofTwoOneGivesNothing();
        ofOne();
        takenLast();
        twoStrikesAndThree();
        theBeatIsDoneFirst();
        strikesOfAllSlots();
        Check.end();
    }

    private static void strikes(Triplane x, int zero, int one, int two) {
        Check.same("strikes of 0", zero, x.strikes(0));
        Check.same("strikes of 1", one, x.strikes(1));
        Check.same("strikes of 2", two, x.strikes(2));
    }

    private static void doneOnesGiveNothing() {
        Edge.term("gives an output with a number, or nothing, also if it is done");
        // Those that jump are done behind the beat 1; the other one gives an output in the beat 3.
        for (int alone = 0; alone < 3; alone++) {
            Triplane x = Check.running("j0 9", "l1 5", "o1 0");
            x.stick((alone + 1) % 3, 0, 0, true);
            x.stick((alone + 2) % 3, 0, 0, true);
            x.frame();
            Check.same("nothing is taken", 0, x.output(0));
            strikes(x, alone == 0 ? 1 : 0, alone == 1 ? 1 : 0, alone == 2 ? 1 : 0);
        }
        Triplane y = Check.running("j0 9", "l1 5", "o1 0");
        y.stick(1, 0, 0, true);
        y.frame();
        Check.same("taken of two", 5, y.output(0));
        strikes(y, 0, 1, 0);
    }

    /** In the beat 3 the ones that jumped read a word with two flips, the others give a number of the register 2. */
    private static Triplane readingInTheBeat(int... odd) {
        Triplane x = Check.running("l2 4", "j1 3", "o2 0", "r0 0");
        for (int computer : odd) {
            x.stick(computer, 1, 0, true);
            x.flip(computer, 0, 0, 0);
            x.flip(computer, 0, 0, 1);
        }
        return x;
    }

    private static void twoAreLeftInTheBeat() {
        Edge.term("the vote is of those that are still on");
        for (int odd = 0; odd < 3; odd++) {
            Triplane x = readingInTheBeat(odd);
            Check.same("one is off", 2, x.frame());
            Check.same("what both give", 4, x.output(0));
            strikes(x, 0, 0, 0);
            Triplane y = readingInTheBeat(odd);
            int other = (odd + 1) % 3;
            int third = (odd + 2) % 3;
            y.stick(other, 2, 3, true);
            Check.same("one is off", 2, y.frame());
            Check.same("both give unlike ones", 0, y.output(0));
            Check.same("which is a strike", 1, y.strikes(other));
            Check.same("for both", 1, y.strikes(third));
            Check.same("not for the one that is off", 0, y.strikes(odd));
        }
    }

    private static void oneIsLeftInTheBeat() {
        Edge.term("the vote is of those that are still on");
        for (int left = 0; left < 3; left++) {
            Triplane x = readingInTheBeat((left + 1) % 3, (left + 2) % 3);
            Check.same("two are off", 1, x.frame());
            Check.same("what one gives", 4, x.output(0));
            strikes(x, 0, 0, 0);
        }
    }

    private static void threeAlike() {
        Edge.term("Of three, what two or more give is taken");
        Triplane x = Check.running("l0 8", "o0 3");
        x.frame();
        Check.same("what three give", 8, x.output(3));
        strikes(x, 0, 0, 0);
        Triplane y = Check.running("l0 8", "o0 3");
        for (int i = 0; i < 3; i++) {
            y.stick(i, 0, 0, true);
        }
        y.frame();
        Check.same("also if it is wrong", 9, y.output(3));
        Check.same("the plain one", 8, y.plain(3));
        strikes(y, 0, 0, 0);
    }

    private static void oneOddOfThree() {
        Edge.term("and the other one has a strike");
        for (int odd = 0; odd < 3; odd++) {
            Triplane x = Check.running("l0 8", "o0 3");
            x.stick(odd, 0, 0, true);
            x.frame();
            Check.same("what two give", 8, x.output(3));
            strikes(x, odd == 0 ? 1 : 0, odd == 1 ? 1 : 0, odd == 2 ? 1 : 0);
            Triplane y = Check.running("l0 8", "o0 3");
            y.stick((odd + 1) % 3, 0, 0, true);
            y.stick((odd + 2) % 3, 0, 0, true);
            y.frame();
            Check.same("what two wrong ones give", 9, y.output(3));
            strikes(y, odd == 0 ? 1 : 0, odd == 1 ? 1 : 0, odd == 2 ? 1 : 0);
        }
    }

    private static void twoGiveNothing() {
        Edge.term("Of three, what two or more give is taken, and the other one has a strike");
        for (int odd = 0; odd < 3; odd++) {
            Triplane x = Check.running("l1 5", "j0 3", "l2 1", "j2 9", "o1 0");
            x.stick(odd, 0, 0, true);
            // The odd one jumps to the instruction 3, falls through to the output 0, and is alone with it.
            x.frame();
            Check.same("nothing is taken", 0, x.output(0));
            strikes(x, odd == 0 ? 1 : 0, odd == 1 ? 1 : 0, odd == 2 ? 1 : 0);
        }
    }

    private static void unlikeNumbers() {
        Edge.term("if all give unlike ones, nothing is taken, and each has a strike");
        for (int right = 0; right < 3; right++) {
            Triplane x = Check.running("l0 8", "o0 0");
            x.stick((right + 1) % 3, 0, 0, true);
            x.stick((right + 2) % 3, 0, 1, true);
            x.frame();
            Check.same("nothing is taken", 0, x.output(0));
            strikes(x, 1, 1, 1);
        }
    }

    private static void unlikeWithNothing() {
        Edge.term("if all give unlike ones, nothing is taken, and each has a strike");
        for (int odd = 0; odd < 3; odd++) {
            Triplane x = Check.running("l1 5", "j0 3", "o1 0", "l2 0");
            x.stick(odd, 0, 0, true);
            x.stick((odd + 1) % 3, 1, 3, true);
            x.frame();
            Check.same("of 5, 13 and nothing", 0, x.output(0));
            strikes(x, 1, 1, 1);
        }
    }

    private static void unlikeOutputs() {
        Edge.term("if all give unlike ones, nothing is taken, and each has a strike");
        // In the beat 4 all give 5, each to another output; then they go on alone: 0 gives one more, 2 gives two more.
        Triplane x = Check.running("l1 5", "j0 4", "j2 6", "o1 0", "l3 0", "o1 1", "o1 2");
        x.stick(0, 0, 0, true);
        x.stick(1, 2, 0, true);
        Check.same("2 has three strikes", 2, x.frame());
        strikes(x, 2, 1, 3);
        for (int i = 0; i < 4; i++) {
            Check.same("the output " + i, 0, x.output(i));
        }
        // Two give 5 to the output 0, one gives 5 to the output 1.
        Triplane y = Check.running("l1 5", "j0 3", "o1 0", "o1 1");
        y.stick(1, 0, 0, true);
        y.frame();
        Check.same("taken of two", 5, y.output(0));
        strikes(y, 0, 2, 0);
    }

    private static void ofTwo() {
        Edge.term("Of two, what both give is taken; otherwise nothing, and both have a strike");
        for (int off = 0; off < 3; off++) {
            int first = (off + 1) % 3;
            int second = (off + 2) % 3;
            Triplane x = Check.running("l0 8", "o0 0");
            x.shut(off);
            x.frame();
            Check.same("what both give", 8, x.output(0));
            strikes(x, 0, 0, 0);
            x.stick(first, 0, 0, true);
            x.clear(0);
            Check.write(x, 0, "l0 4", "o0 0");
            x.frame();
            Check.same("unlike ones", 8, x.output(0));
            Check.same("strikes of the one", 1, x.strikes(first));
            Check.same("strikes of the other", 1, x.strikes(second));
            Check.same("strikes of the one that is off", 0, x.strikes(off));
        }
    }

    private static void ofTwoOneGivesNothing() {
        Edge.term("Of two, what both give is taken; otherwise nothing, and both have a strike");
        for (int odd = 0; odd < 2; odd++) {
            Triplane x = Check.running("l1 5", "j0 9", "o1 0");
            x.shut(2);
            x.stick(odd, 0, 0, true);
            x.frame();
            Check.same("one and nothing", 0, x.output(0));
            strikes(x, 1, 1, 0);
        }
        Triplane y = Check.running("l1 5", "l1 6", "l1 7", "l1 8");
        y.shut(2);
        y.frame();
        strikes(y, 0, 0, 0);
    }

    private static void ofOne() {
        Edge.term("Of one, what it gives is taken");
        for (int alone = 0; alone < 3; alone++) {
            Triplane x = Check.running("l0 8", "l1 2", "o0 0");
            x.shut((alone + 1) % 3);
            x.shut((alone + 2) % 3);
            x.stick(alone, 0, 0, true);
            x.frame();
            Check.same("what it gives", 9, x.output(0));
            strikes(x, 0, 0, 0);
        }
    }

    private static void takenLast() {
        Edge.term("An output is the number that was taken for it last, 0 at first");
        Triplane x = Check.running("l0 4", "o0 1", "l0 6", "o0 1", "l0 7", "o0 2", "s0 0", "o0 3");
        x.frame();
        Check.same("never taken", 0, x.output(0));
        Check.same("taken twice", 6, x.output(1));
        Check.same("taken once", 7, x.output(2));
        x.clear(0);
        Check.write(x, 0, "l0 8", "o0 2");
        x.stick(0, 0, 0, true);
        x.stick(1, 0, 1, true);
        x.frame();
        Check.same("not taken", 7, x.output(2));
        Check.same("not given", 6, x.output(1));
        // 0 is a number too, that takes the place of another one.
        Triplane y = Check.running("l0 4", "o0 1", "l0 0", "o0 1");
        y.frame();
        Check.same("a 0 that was taken", 0, y.output(1));
        Check.same("of the plain one", 0, y.plain(1));
    }

    private static void twoStrikesAndThree() {
        Edge.term("With 3 strikes a computer is shut off, for 'v'");
        for (int odd = 0; odd < 3; odd++) {
            Triplane x = Check.running("l0 8", "o0 0");
            x.stick(odd, 0, 0, true);
            Check.frames(x, 2);
            Check.same("two strikes", 2, x.strikes(odd));
            Check.same("on", true, x.isOn(odd));
            Check.same("no line", "", Check.lines(x));
            Check.same("the frame 3", 2, x.frame());
            Check.same("three strikes", 3, x.strikes(odd));
            Check.same("off", false, x.isOn(odd));
            Check.same("the line", "3:" + odd + "v", Check.lines(x));
        }
    }

    private static void theBeatIsDoneFirst() {
        Edge.term("once all of the beat is done");
        // The vote of the beat with the third strike is of three still, the one behind of two.
        Triplane x = Check.running("l0 8", "o0 0", "o0 0", "o0 0", "l1 1", "o0 1", "m0 0");
        x.stick(1, 0, 0, true);
        Check.same("frame", 2, x.frame());
        Check.same("taken in that beat", 8, x.output(0));
        Check.same("taken behind it", 8, x.output(1));
        strikes(x, 0, 3, 0);
        Check.same("no more is done by it", 0, x.word(1, 0, 0));
        // All three at once, each judged by what all gave.
        Triplane y = Check.running("l0 8", "o0 0", "o0 0", "o0 0", "o0 0");
        y.stick(0, 0, 0, true);
        y.stick(1, 0, 1, true);
        Check.same("frame", 0, y.frame());
        strikes(y, 3, 3, 3);
        Check.same("the lowest one first", "1:2v 1:1v 1:0v", Check.lines(y));
        // Of two, one with a strike more is shut off; what the other one gives then is taken.
        Triplane z = Check.running("l0 8", "o0 0", "o0 0");
        z.stick(2, 0, 0, true);
        z.frame();
        strikes(z, 0, 0, 2);
        z.shut(0);
        z.clear(0);
        Check.write(z, 0, "l0 4", "o0 0", "o0 1");
        Check.same("frame", 1, z.frame());
        Check.same("nothing in that beat", 8, z.output(0));
        Check.same("of one behind it", 4, z.output(1));
        strikes(z, 0, 1, 3);
    }

    private static void strikesOfAllSlots() {
        Edge.term("With 3 strikes a computer is shut off");
        Triplane x = new Triplane();
        for (int i = 0; i < 3; i++) {
            Check.write(x, i, "l0 8", "o0 0", "m0 0");
            x.slot(0, i, i);
        }
        x.stick(0, 0, 0, true);
        Check.same("a strike in each slot", 2, x.frame());
        Check.same("off in the last slot", 3, x.strikes(0));
        Check.same("the slot ahead was done", 9, x.word(0, 1, 0));
        Check.same("the last one was not", 0, x.word(0, 2, 0));
    }
}
