/** The edges of 'Memory'. */
final class MemoryEdgeTest {
    public static void main(String[] args) {
        wordsAsTheyAreWithFlips();
        flippedSinceItWasWritten();
        noFlipAtARead();
        oneFlipAtARead();
        twoFlipsAndMoreAtARead();
        noFlipAtTheScrubber();
        oneFlipAtTheScrubber();
        twoFlipsAndMoreAtTheScrubber();
        nothingIsDoneOfTheInstruction();
        flippedTwice();
        firstAndLastWordOfTheScrubber();
        oneWordAFrame();
        offOnesAreNotScrubbed();
        Check.end();
    }

    private static void flip(Triplane x, int computer, int word, int count) {
        for (int bit = 0; bit < count; bit++) {
            x.flip(computer, 0, word, 15 - bit);
        }
    }

    private static void wordsAsTheyAreWithFlips() {
        Edge.promise(11, "Returns a word of a computer, as it is with flips");
        for (int number : new int[] {-32768, -1, 0, 1, 21845, 32767}) {
            for (int bit = 0; bit < 16; bit++) {
                Triplane x = Check.running("l0 " + number, "m0 3");
                x.frame();
                Check.same("flip", 1, x.flip(1, 0, 3, bit));
                Check.same(number + " with the bit " + bit, (short) (number ^ 1 << bit), x.word(1, 0, 3));
                Check.same("another computer", number, x.word(0, 0, 3));
                Check.same("flip back", 0, x.flip(1, 0, 3, bit));
                Check.same("as it was", number, x.word(1, 0, 3));
            }
        }
    }

    private static void flippedSinceItWasWritten() {
        Edge.term("A word knows which of its bits were flipped since it was written");
        for (int count = 0; count <= 16; count++) {
            Triplane x = Check.running("l0 5", "m0 3", "r1 3", "o1 0");
            flip(x, 1, 3, count);
            Check.same("written ahead of the read", 3, x.frame());
            Check.same("as it was written", 5, x.word(1, 0, 3));
            Check.same("nothing was mended", 0, x.mended(1));
            Check.same("flips count from 1 again", 1, x.flip(1, 0, 3, 15));
        }
        Triplane y = Check.running("m0 3");
        flip(y, 1, 3, 1);
        y.frame();
        Check.same("written with the same number", 1, y.flip(1, 0, 3, 0));
        Check.same("the flip of before is gone", 1, y.word(1, 0, 3));
    }

    private static Triplane reading() {
        return Check.running("l0 4", "r1 3", "o1 0", "m0 4");
    }

    private static void noFlipAtARead() {
        Edge.term("As it is read, by 'r' or the scrubber, one such bit is mended");
        Triplane x = reading();
        Check.same("all stay on", 3, x.frame());
        for (int i = 0; i < 3; i++) {
            Check.same("nothing to mend", 0, x.mended(i));
        }
    }

    private static void oneFlipAtARead() {
        Edge.term("As it is read, by 'r' or the scrubber, one such bit is mended");
        for (int bit = 0; bit < 16; bit++) {
            for (int computer = 0; computer < 3; computer++) {
                Triplane x = Check.running("l0 21845", "m0 3");
                x.frame();
                x.clear(0);
                Check.write(x, 0, "r1 3", "o1 0");
                x.flip(computer, 0, 3, bit);
                Check.same("all stay on", 3, x.frame());
                Check.same("the word", 21845, x.word(computer, 0, 3));
                Check.same("what was read", 0, x.strikes(computer));
                for (int i = 0; i < 3; i++) {
                    Check.same("mended", i == computer ? 1 : 0, x.mended(i));
                }
                x.frame();
                Check.same("not mended twice", 1, x.mended(computer));
                Check.same("flips count from 1 again", 1, x.flip(computer, 0, 3, 9));
            }
        }
    }

    private static void twoFlipsAndMoreAtARead() {
        Edge.term("with two or more the computer is shut off, for 'm', at once");
        for (int count = 2; count <= 16; count++) {
            int computer = count % 3;
            Triplane x = reading();
            flip(x, computer, 3, count);
            int seen = x.word(computer, 0, 3);
            Check.same("one is off", 2, x.frame());
            Check.same("which", false, x.isOn(computer));
            Check.same("the line", "1:" + computer + "m", Check.lines(x));
            Check.same("the word stays", seen, x.word(computer, 0, 3));
            Check.same("nothing was mended", 0, x.mended(computer));
            Check.same("no strike", 0, x.strikes(computer));
            Check.same("nothing is done behind", 0, x.word(computer, 0, 4));
            Check.same("the others go on", 4, x.word((computer + 1) % 3, 0, 4));
        }
        Triplane y = reading();
        for (int i = 0; i < 3; i++) {
            flip(y, i, 3, 2);
        }
        Check.same("all are off", 0, y.frame());
        Check.same("the lowest one first", "1:2m 1:1m 1:0m", Check.lines(y));
    }

    private static void noFlipAtTheScrubber() {
        Edge.term("As it is read, by 'r' or the scrubber, one such bit is mended");
        Triplane x = new Triplane();
        Check.frames(x, 18);
        Check.same("all stay on", 1, (int) x.onShare());
        Check.same("nothing to mend", 0, x.mended(0) + x.mended(1) + x.mended(2));
    }

    private static void oneFlipAtTheScrubber() {
        Edge.term("As it is read, by 'r' or the scrubber, one such bit is mended");
        for (int bit = 0; bit < 16; bit++) {
            Triplane x = new Triplane();
            x.flip(bit % 3, 0, 1, bit);
            Check.same("all stay on", 3, x.frame());
            Check.same("mended", 0, x.word(bit % 3, 0, 1));
            for (int i = 0; i < 3; i++) {
                Check.same("mended bits", i == bit % 3 ? 1 : 0, x.mended(i));
            }
        }
    }

    private static void twoFlipsAndMoreAtTheScrubber() {
        Edge.term("with two or more the computer is shut off, for 'm', at once");
        for (int count = 2; count <= 16; count++) {
            int computer = count % 3;
            Triplane x = new Triplane();
            flip(x, computer, 1, count);
            int seen = x.word(computer, 0, 1);
            Check.same("one is off", 2, x.frame());
            Check.same("the line", "1:" + computer + "m", Check.lines(x));
            Check.same("the word stays", seen, x.word(computer, 0, 1));
            Check.same("nothing was mended", 0, x.mended(computer));
        }
    }

    private static void nothingIsDoneOfTheInstruction() {
        Edge.term("its instruction not being done, and gives nothing in this beat");
        Triplane x = Check.running("l1 7", "o1 0", "r1 3", "o1 0", "m1 5");
        x.shut(0);
        x.shut(2);
        flip(x, 1, 3, 2);
        Check.same("none is on", 0, x.frame());
        Check.same("the output of before", 7, x.output(0));
        Check.same("nothing behind it", 0, x.word(1, 0, 5));
        Check.same("no overrun", 0, x.overruns(0));
        // Nor does what it gave in a beat ahead count in this one: the others alone would be outvoted by nothing.
        Triplane y = Check.running("l2 4", "j1 3", "o2 0", "r0 0");
        for (int i = 0; i < 2; i++) {
            y.stick(i, 1, 0, true);
            flip(y, i, 0, 2);
        }
        Check.same("one is on", 1, y.frame());
        Check.same("what it gives", 4, y.output(0));
    }

    private static void flippedTwice() {
        Edge.term("A bit that is flipped twice is as it was");
        for (int bit = 0; bit < 16; bit++) {
            Triplane x = reading();
            Check.same("flip", 1, x.flip(0, 0, 3, bit));
            Check.same("flip again", 0, x.flip(0, 0, 3, bit));
            Check.same("the word", 0, x.word(0, 0, 3));
            Check.same("all stay on", 3, x.frame());
            Check.same("nothing to mend", 0, x.mended(0));
        }
        // Three flips of two bits are one, four of three are two.
        Triplane y = reading();
        flip(y, 0, 3, 2);
        Check.same("one bit is left", 1, y.flip(0, 0, 3, 15));
        Check.same("all stay on", 3, y.frame());
        Check.same("mended", 1, y.mended(0));
        Triplane z = reading();
        flip(z, 0, 3, 3);
        Check.same("two bits are left", 2, z.flip(0, 0, 3, 15));
        Check.same("one is off", 2, z.frame());
    }

    private static void firstAndLastWordOfTheScrubber() {
        Edge.term("the one whose number, 6 times the partition and the word, is the time modulo 18");
        for (int time = 1; time <= 37; time++) {
            for (int at = 0; at < 18; at++) {
                Triplane x = new Triplane();
                Check.frames(x, time - 1);
                x.flip(2, at / 6, at % 6, 5);
                x.frame();
                int due = at == time % 18 ? 0 : 32;
                Check.same("the word " + at + " behind the time " + time, due, x.word(2, at / 6, at % 6));
            }
        }
    }

    private static void oneWordAFrame() {
        Edge.term("The scrubber looks at one word of each computer that is on in each frame");
        Triplane x = new Triplane();
        for (int i = 0; i < 54; i++) {
            x.flip(i / 18, i / 6 % 3, i % 6, 5);
        }
        for (int time = 1; time <= 19; time++) {
            x.frame();
            for (int i = 0; i < 3; i++) {
                Check.same("mended by the time " + time, Math.min(time, 18), x.mended(i));
            }
        }
    }

    private static void offOnesAreNotScrubbed() {
        Edge.term("one word of each computer that is on");
        Triplane x = new Triplane();
        flip(x, 0, 1, 1);
        flip(x, 1, 1, 2);
        flip(x, 2, 1, 1);
        x.shut(0);
        x.shut(1);
        Check.same("one is on", 1, x.frame());
        Check.same("off with one flip", 0, x.mended(0));
        Check.same("the word", -32768, x.word(0, 0, 1));
        Check.same("no line for one that was off", "0:1h 0:0h", Check.lines(x));
        Check.same("on with one flip", 1, x.mended(2));
    }
}
