/** The edges of the plain one and of 'Frames'. */
final class FrameEdgeTest {
    /** Two beats, then nine rounds of three: 29 beats. */
    private static final String[] LONG = {"l0 9", "l1 1", "s0 1", "l2 0", "j0 2"};

    public static void main(String[] args) {
        onePlainComputerOn();
        noneOnInAFrame();
        plainIsNeverOff();
        timeOfTheFrame();
        agreedAheadOfSlots();
        slotsOneBehindTheOther();
        slotsOfNone();
        registersAtTheBegin();
        instructionsAtTheBegin();
        theBeatThirtyAndTheNextOne();
        overrunsAtTheBeatThirty();
        thePlainOneIsNotCounted();
        oneOfThreeIsEnough();
        shutOffInTheLastBeat();
        oneForASlot();
        scrubbedBehindSlots();
        clocksBehindTheScrubber();
        Check.end();
    }

    private static Triplane counting() {
        return Check.running("r0 0", "l1 1", "a0 1", "m0 0", "o0 2");
    }

    private static void onePlainComputerOn() {
        Edge.term("as long as no bit was flipped or stuck, and some computer was on in all frames");
        for (int last = 0; last < 3; last++) {
            Triplane x = counting();
            x.frame();
            x.shut((last + 1) % 3);
            x.frame();
            x.shut((last + 2) % 3);
            x.frame();
            Check.same("the output with one on", 3, x.output(2));
            Check.same("as the plain one", true, x.isPlain());
            Check.same("true", true, x.isTrue());
        }
    }

    private static void noneOnInAFrame() {
        Edge.term("some computer was on in all frames, all outputs are those of the plain one");
        Triplane x = counting();
        x.frame();
        x.shut(0);
        x.shut(1);
        x.shut(2);
        Check.same("none on, but in no frame", true, x.isPlain());
        Check.same("true", true, x.isTrue());
        Check.same("none on in a frame", 0, x.frame());
        Check.same("not as the plain one", false, x.isPlain());
        Check.same("true nevertheless", true, x.isTrue());
    }

    private static void plainIsNeverOff() {
        Edge.term("which runs in all frames, and is never off");
        Triplane x = counting();
        for (int i = 0; i < 3; i++) {
            x.flip(i, 0, 0, 0);
            x.flip(i, 0, 0, 1);
            x.stick(i, 0, i, true);
        }
        Check.same("all are off", 0, x.frame());
        Check.same("the plain one runs", 1, x.plain(2));
        Check.frames(x, 4);
        Check.same("in all frames", 5, x.plain(2));
        Check.same("the output", 0, x.output(2));
    }

    private static void timeOfTheFrame() {
        Edge.term("In a frame the time becomes 1 more");
        Triplane x = counting();
        x.flip(2, 0, 0, 0);
        x.flip(2, 0, 0, 1);
        Check.same("ahead of the first one", 0, x.time());
        x.frame();
        Check.same("behind it", 1, x.time());
        Check.same("within it", 1, x.line(0, 't'));
    }

    private static void agreedAheadOfSlots() {
        Edge.term("what is agreed of sensors is found, and the slots");
        Triplane x = Check.running("i0 3", "o0 0");
        x.read(3, 5, 5, 5);
        x.frame();
        Check.same("in the same frame", 5, x.output(0));
        Check.same("of the plain one", 5, x.plain(0));
    }

    private static void slotsOneBehindTheOther() {
        Edge.term("the slots 0 to 2 of the mode run, one behind the other");
        int[][] orders = {{0, 1, 2}, {0, 2, 1}, {1, 0, 2}, {1, 2, 0}, {2, 0, 1}, {2, 1, 0}};
        for (int[] order : orders) {
            Triplane x = new Triplane();
            for (int i = 0; i < 3; i++) {
                Check.write(x, i, "l0 " + (i + 1), "o0 0");
                x.slot(0, i, order[i]);
            }
            x.frame();
            Check.same("the last one", order[2] + 1, x.output(0));
        }
    }

    private static void slotsOfNone() {
        Edge.term("each a partition, or none");
        for (int set = 0; set < 8; set++) {
            Triplane x = counting();
            int due = 0;
            for (int i = 0; i < 3; i++) {
                boolean isSet = (set >> i & 1) == 1;
                x.slot(0, i, isSet ? 0 : -1);
                x.slot(1, i, 0);
                due += isSet ? 1 : 0;
            }
            x.frame();
            Check.same("runs in one frame", due, x.word(1, 0, 0));
        }
    }

    private static void registersAtTheBegin() {
        Edge.term("As a slot begins, registers of its partition are 0");
        for (int register = 0; register < 4; register++) {
            int other = (register + 1) % 4;
            // The loop has no end, so the register is 7 as the slot before ends.
            Triplane x = Check.running("o" + register + " 0", "l" + register + " 7");
            Check.write(x, 0, "l" + other + " 1", "j" + other + " 1");
            x.slot(0, 1, 0);
            Check.frames(x, 2);
            Check.same("the register " + register, 0, x.output(0));
            Check.same("of the plain one", 0, x.plain(0));
        }
    }

    private static void instructionsAtTheBegin() {
        Edge.term("all computers that are on are at its instruction 0");
        Triplane x = Check.running("r0 0", "l1 1", "a0 1", "m0 0", "o0 2", "j1 5");
        x.slot(0, 1, 0);
        x.slot(0, 2, 0);
        x.frame();
        for (int i = 0; i < 3; i++) {
            Check.same("begun three times", 3, x.word(i, 0, 0));
        }
        Check.same("the plain one too", 3, x.plain(2));
    }

    private static Triplane longOne(String... behind) {
        Triplane x = Check.running(LONG);
        Check.write(x, 0, behind);
        return x;
    }

    private static void theBeatThirtyAndTheNextOne() {
        Edge.term("Then beats follow, 30 at most");
        Triplane x = longOne("o1 0", "o1 1");
        x.frame();
        Check.same("the beat 30", 1, x.output(0));
        Check.same("of the plain one", 1, x.plain(0));
        Check.same("the beat 31", 0, x.output(1));
        Check.same("of the plain one", 0, x.plain(1));
        Triplane y = longOne("m1 0", "m1 1");
        y.frame();
        Check.same("the beat 30", 1, y.word(2, 0, 0));
        Check.same("the beat 31", 0, y.word(2, 0, 1));
    }

    private static void overrunsAtTheBeatThirty() {
        Edge.term("is not done behind the 30th beat, the partition has an overrun more");
        String[][] behind = {{}, {"l3 0"}, {"l3 0", "l3 0"}};
        for (int i = 0; i < 3; i++) {
            Triplane x = longOne(behind[i]);
            x.frame();
            Check.same((29 + i) + " beats", i == 2 ? 1 : 0, x.overruns(0));
            Check.same("another partition", 0, x.overruns(1) + x.overruns(2));
        }
        // A jump in the beat 30 to behind the last one ends it, a jump back doesn't.
        Triplane y = longOne("j1 9", "l3 0");
        y.frame();
        Check.same("a jump behind", 0, y.overruns(0));
        Triplane z = longOne("j1 0");
        z.frame();
        Check.same("a jump back", 1, z.overruns(0));
    }

    private static void thePlainOneIsNotCounted() {
        Edge.term("If one that is on then, the plain one not counted");
        Triplane x = longOne("l3 0", "l3 0");
        for (int i = 0; i < 3; i++) {
            x.shut(i);
            x.frame();
            Check.same("with " + (2 - i) + " on", i < 2 ? i + 1 : 2, x.overruns(0));
        }
    }

    private static void oneOfThreeIsEnough() {
        Edge.term("If one that is on then");
        for (int odd = 0; odd < 3; odd++) {
            Triplane x = Check.running("l0 0", "j0 0");
            x.stick(odd, 0, 0, true);
            x.frame();
            Check.same("one that has no end", 1, x.overruns(0));
            x.shut(odd);
            x.frame();
            Check.same("which is off", 1, x.overruns(0));
        }
    }

    private static void shutOffInTheLastBeat() {
        Edge.term("If one that is on then, the plain one not counted, is not done behind the 30th beat");
        // Two that are unlike in the beat 30 alone: a strike in each frame, and an instruction left.
        Triplane x = longOne("o3 0", "l3 0");
        x.shut(2);
        x.stick(0, 3, 3, true);
        Check.same("one strike", 2, x.frame());
        Check.same("two strikes", 2, x.frame());
        Check.same("both were on", 2, x.overruns(0));
        Check.same("three strikes", 0, x.frame());
        Check.same("both are off", 2, x.overruns(0));
        for (int flipped = 0; flipped <= 3; flipped++) {
            Triplane y = longOne("r3 0", "l3 0");
            for (int i = 0; i < flipped; i++) {
                y.flip(i, 0, 0, 0);
                y.flip(i, 0, 0, 1);
            }
            Check.same("off for their memory", 3 - flipped, y.frame());
            Check.same("overruns with " + flipped + " of them", flipped == 3 ? 0 : 1, y.overruns(0));
        }
    }

    private static void oneForASlot() {
        Edge.term("an overrun more, one for a slot");
        Triplane x = longOne("l3 0", "l3 0");
        x.frame();
        Check.same("three computers in a slot", 1, x.overruns(0));
        x.slot(0, 1, 0);
        x.slot(0, 2, 0);
        x.frame();
        Check.same("three slots", 4, x.overruns(0));
    }

    private static void scrubbedBehindSlots() {
        Edge.term("At the end of a frame words are scrubbed");
        // The scrubber of the frame 1 looks at the word 1 of the partition 0.
        Triplane x = Check.running("l0 5", "m0 1");
        x.flip(1, 0, 1, 3);
        x.flip(1, 0, 1, 4);
        Check.same("written in the frame", 3, x.frame());
        Triplane y = Check.running("r0 1", "o0 0");
        y.flip(1, 0, 1, 3);
        y.frame();
        Check.same("mended as it was read, and only then", 1, y.mended(1));
        Triplane z = Check.running("l0 5", "o0 0");
        z.flip(1, 0, 1, 3);
        z.flip(1, 0, 1, 4);
        z.stick(0, 0, 1, true);
        z.frame();
        Check.same("it was on in the slot, of three", 5, z.output(0));
        Check.same("and is off behind", false, z.isOn(1));
    }

    private static void clocksBehindTheScrubber() {
        Edge.term("words are scrubbed, then clocks are held together");
        Triplane x = new Triplane();
        x.drift(0, 9);
        x.drift(1, 2);
        x.flip(2, 0, 1, 0);
        x.flip(2, 0, 1, 1);
        Check.same("shut off by the scrubber", 2, x.frame());
        Check.same("so not of three", 9, x.clock(0));
        Check.same("so not of three", 2, x.clock(1));
        Check.same("so not of three", 0, x.clock(2));
    }
}
