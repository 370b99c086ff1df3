/** The edges of 'What it is', 'Numbers' and 'Partitions'. */
final class NumberEdgeTest {
    public static void main(String[] args) {
        theLastCallThatCounts();
        leastAndMost();
        sumsGoRound();
        differencesGoRound();
        bitsZeroAndFifteen();
        theTenthAndTheEleventhInstruction();
        fullOnesApart();
        numberedFromZero();
        sixWords();
        fourRegisters();
        allZeroAtFirst();
        anEmptyOne();
        nothingElseIsTouched();
        itselfAsTheOtherRegister();
        jumpsAboveZeroOnly();
        jumpsToTheLastOneAndBehindIt();
        Check.end();
    }

    private static void theLastCallThatCounts() {
        Edge.term("An object is used for at most 512 calls after it has been made");
        Triplane x = new Triplane();
        Check.frames(x, 511);
        Check.same("the call 512", 511, x.time());
        Triplane y = new Triplane();
        for (int i = 0; i < 170; i++) {
            y.shut(i % 3);
            y.test(i % 3);
            y.back(i % 3);
        }
        Check.same("the call 511", 'b', y.line(0, 'r'));
        Check.same("the call 512", 0, y.line(29, 't'));
    }

    private static int outcome(String... instructions) {
        Triplane x = Check.running(instructions);
        x.frame();
        Check.same("of the plain one", x.output(0), x.plain(0));
        for (int i = 0; i < 3; i++) {
            Check.same("in a word of " + i, x.output(0), x.word(i, 0, 0));
        }
        return x.output(0);
    }

    private static void leastAndMost() {
        Edge.term("Numbers are whole, from -32768 to 32767");
        for (int number : new int[] {-32768, -32767, -1, 0, 1, 32766, 32767}) {
            Check.same("a number that stays", number, outcome("l0 " + number, "o0 0", "m0 0"));
        }
    }

    private static void sumsGoRound() {
        Edge.term("what would be above or below goes round");
        int[][] sums = {
            {32766, 1, 32767}, {32767, 0, 32767}, {32767, 1, -32768}, {32767, 2, -32767}, {32767, 32767, -2},
            {-32767, -1, -32768}, {-32768, 0, -32768}, {-32768, -1, 32767}, {-32768, -32768, 0}, {-32768, 32767, -1},
        };
        for (int[] sum : sums) {
            int got = outcome("l0 " + sum[0], "l1 " + sum[1], "a0 1", "o0 0", "m0 0");
            Check.same(sum[0] + " and " + sum[1], sum[2], got);
        }
    }

    private static void differencesGoRound() {
        Edge.term("what would be above or below goes round");
        int[][] differences = {
            {-32767, 1, -32768}, {-32768, 1, 32767}, {-32768, 2, 32766}, {0, -32768, -32768}, {-1, -32768, 32767},
            {32766, -1, 32767}, {32767, -1, -32768}, {-32768, 32767, 1}, {32767, -32768, -1}, {-32768, -32768, 0},
        };
        for (int[] difference : differences) {
            int got = outcome("l0 " + difference[0], "l1 " + difference[1], "s0 1", "o0 0", "m0 0");
            Check.same(difference[0] + " less " + difference[1], difference[2], got);
        }
    }

    private static void bitsZeroAndFifteen() {
        Edge.term("Their bits are 0 to 15");
        for (int bit = 0; bit < 16; bit++) {
            Triplane x = new Triplane();
            x.flip(0, 1, 4, bit);
            Check.same("the bit " + bit, bit == 15 ? -32768 : 1 << bit, x.word(0, 1, 4));
        }
        Triplane y = new Triplane();
        for (int bit = 0; bit < 16; bit++) {
            y.flip(0, 1, 4, bit);
        }
        Check.same("all bits", -1, y.word(0, 1, 4));
        y.flip(0, 1, 4, 15);
        Check.same("all but the last one", 32767, y.word(0, 1, 4));
    }

    private static void theTenthAndTheEleventhInstruction() {
        Edge.term("each with at most 10 instructions");
        for (int partition = 0; partition < 3; partition++) {
            int at = partition;
            Triplane x = filled(at, 9);
            Check.same("the tenth", 10, x.code(at, 'o', 1, 3));
            Edge.refuses("the eleventh", IllegalStateException.class, () -> filled(at, 10), y -> y.code(at, 'l', 0, 1));
            x.slot(0, 0, at);
            x.frame();
            Check.same("the tenth one is done too", 4, x.output(3));
        }
    }

    /** Instructions that leave 4 in the register 1. */
    private static Triplane filled(int partition, int size) {
        Triplane x = new Triplane();
        for (int i = 0; i < size; i++) {
            x.code(partition, 'l', 1, 4);
        }
        return x;
    }

    private static void fullOnesApart() {
        Edge.term("There are the partitions 0 to 2, each with");
        for (int full = 0; full < 3; full++) {
            Triplane x = filled(full, 10);
            for (int other = 0; other < 3; other++) {
                if (other != full) {
                    Check.same("beside a full one", 1, x.code(other, 'l', 0, 1));
                }
            }
        }
    }

    private static void numberedFromZero() {
        Edge.term("instructions, numbered from 0");
        // Six rounds of five beats, if the jump is to the first one; more, if it is to the one behind.
        Triplane x = Check.running("r0 0", "l1 1", "a0 1", "m0 0", "j1 0");
        x.frame();
        Check.same("rounds from the instruction 0", 6, x.word(0, 0, 0));
        Triplane y = Check.running("l0 1", "j0 9", "o0 0", "o0 0", "o0 0", "o0 0", "o0 0", "o0 0", "o0 0", "o0 1");
        y.frame();
        Check.same("the ones that were passed", 0, y.output(0));
        Check.same("the tenth one has the number 9", 1, y.output(1));
        Check.same("and is an instruction", 0, y.overruns(0));
    }

    private static void sixWords() {
        Edge.term("in each computer with 6 words of memory");
        for (int word = 0; word < 6; word++) {
            Triplane x = Check.running("l0 7", "m0 " + word, "r1 " + word, "o1 0");
            x.frame();
            Check.same("the word " + word + " as it is read", 7, x.output(0));
            for (int i = 0; i < 54; i++) {
                int due = i / 6 % 3 == 0 && i % 6 == word ? 7 : 0;
                Check.same("word " + i, due, x.word(i / 18, i / 6 % 3, i % 6));
            }
        }
    }

    private static void fourRegisters() {
        Edge.term("and 4 registers");
        Triplane x = Check.running("l0 1", "l1 2", "l2 3", "l3 4", "o0 0", "o1 1", "o2 2", "o3 3");
        x.frame();
        for (int i = 0; i < 4; i++) {
            Check.same("the register " + i, i + 1, x.output(i));
        }
    }

    private static void allZeroAtFirst() {
        Edge.term("all 0 at first");
        for (int i = 0; i < 6; i++) {
            // A register and a word of 0 leave 5 as it is.
            Triplane x = Check.running("l0 5", "a0 1", "a0 2", "a0 3", "r1 " + i, "a0 1", "o0 0");
            x.frame();
            Check.same("with the word " + i, 5, x.output(0));
            Check.same("of the plain one", 5, x.plain(0));
        }
    }

    private static void anEmptyOne() {
        Edge.term("have an instruction left do one");
        Triplane x = Check.running();
        x.slot(0, 1, 0);
        Check.same("a frame of an empty partition", 3, x.frame());
        Check.same("overruns", 0, x.overruns(0));
        Check.same("strikes", 0, x.strikes(0) + x.strikes(1) + x.strikes(2));
        Triplane y = Check.running("l0 5", "o0 0");
        y.frame();
        y.clear(0);
        y.frame();
        Check.same("an output of one that was cleared", 5, y.output(0));
    }

    private static void nothingElseIsTouched() {
        Edge.term("nothing else is touched by its code");
        for (int partition = 0; partition < 3; partition++) {
            Triplane x = new Triplane();
            Check.write(x, partition, "l0 7", "m0 0", "m0 1", "m0 2", "m0 3", "m0 4", "m0 5", "l1 9", "a1 0");
            x.slot(0, 0, partition);
            x.frame();
            for (int i = 0; i < 54; i++) {
                Check.same("the word " + i, i / 6 % 3 == partition ? 7 : 0, x.word(i / 18, i / 6 % 3, i % 6));
            }
            for (int i = 0; i < 4; i++) {
                Check.same("outputs", 0, x.output(i));
                Check.same("sensors", 0, x.agreed(i));
            }
        }
    }

    private static void itselfAsTheOtherRegister() {
        Edge.term("'a' it becomes itself and the register n, 's' less the register n");
        Check.same("twice itself", 14, outcome("l0 7", "a0 0", "o0 0", "m0 0"));
        Check.same("less itself", 0, outcome("l0 7", "s0 0", "o0 0", "m0 0"));
        Check.same("twice the greatest one", -2, outcome("l0 32767", "a0 0", "o0 0", "m0 0"));
        Check.same("twice the least one", 0, outcome("l0 -32768", "a0 0", "o0 0", "m0 0"));
        Check.same("the other one stays", 3, outcome("l1 3", "l2 4", "a2 1", "o1 0", "m1 0"));
    }

    private static void jumpsAboveZeroOnly() {
        Edge.term("'j' the instruction n is the next one if the register is above 0");
        for (int number : new int[] {-32768, -1, 0, 1, 2, 32767}) {
            int due = number > 0 ? 0 : 5;
            Check.same("a jump at " + number, due, outcome("l0 " + number, "l1 5", "j0 5", "o1 0", "m1 0", "l2 0"));
        }
    }

    private static void jumpsToTheLastOneAndBehindIt() {
        Edge.term("'j' the instruction n is the next one if the register is above 0");
        // Five instructions: 4 is the last one, 5 is behind it.
        for (int n = 2; n < 10; n++) {
            Triplane x = Check.running("l0 5", "j0 " + n, "o0 0", "o0 1", "o0 2");
            x.frame();
            Check.same("the instruction 2 with " + n, n <= 2 ? 5 : 0, x.output(0));
            Check.same("the instruction 3 with " + n, n <= 3 ? 5 : 0, x.output(1));
            Check.same("the instruction 4 with " + n, n <= 4 ? 5 : 0, x.output(2));
            Check.same("overruns with " + n, 0, x.overruns(0));
        }
        Triplane y = Check.running("l0 5", "j0 1");
        y.frame();
        Check.same("a jump to itself has no end", 1, y.overruns(0));
    }
}
