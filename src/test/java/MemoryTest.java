/** Promises 11, 12 and 20: words, flips, and what is mended. */
final class MemoryTest {
    public static void main(String[] args) {
        flips();
        readingMendsOne();
        readingTellsTwo();
        writingForgetsFlips();
        scrubberGoesRound();
        scrubberTellsTwo();
        Check.end();
    }

    private static void flips() {
        Triplane x = new Triplane();
        Check.same("flip", 1, x.flip(1, 2, 5, 0));
        Check.same("word", 1, x.word(1, 2, 5));
        Check.same("flip", 2, x.flip(1, 2, 5, 15));
        Check.same("the bit 15", -32767, x.word(1, 2, 5));
        Check.same("flip back", 1, x.flip(1, 2, 5, 0));
        Check.same("word", -32768, x.word(1, 2, 5));
        Check.same("flip back", 0, x.flip(1, 2, 5, 15));
        Check.same("word as it was", 0, x.word(1, 2, 5));
        for (int bit = 0; bit < 16; bit++) {
            Check.same("all of the bits", bit + 1, x.flip(0, 0, 0, bit));
        }
        Check.same("all set", -1, x.word(0, 0, 0));
        Check.same("others are not touched", 0, x.word(1, 0, 0));
        Triplane y = Check.running("l0 6", "m0 2");
        y.frame();
        Check.same("a bit that is set", 1, y.flip(0, 0, 2, 1));
        Check.same("is set no more", 4, y.word(0, 0, 2));
    }

    private static void readingMendsOne() {
        Triplane x = Check.running("r0 3", "o0 0", "l0 12", "m0 3");
        x.frame();
        x.flip(2, 0, 3, 1);
        Check.same("flipped", 14, x.word(2, 0, 3));
        x.clear(0);
        Check.write(x, 0, "r0 3", "o0 0");
        Check.same("all stay on", 3, x.frame());
        Check.same("mended", 12, x.word(2, 0, 3));
        Check.same("mended bits", 1, x.mended(2));
        Check.same("no strike", 0, x.strikes(2));
        Check.same("others mended nothing", 0, x.mended(1));
        x.frame();
        Check.same("only once", 1, x.mended(2));
        x.flip(2, 0, 3, 15);
        x.frame();
        Check.same("once more", 2, x.mended(2));
        Check.same("mended once more", 12, x.word(2, 0, 3));
    }

    private static void readingTellsTwo() {
        Triplane x = Check.running("l0 4", "r0 3", "o0 0", "m0 2");
        x.flip(0, 0, 3, 4);
        x.flip(0, 0, 3, 5);
        Check.same("one is off", 2, x.frame());
        Check.same("which", false, x.isOn(0));
        Check.same("the log", "1:0m", Check.lines(x));
        Check.same("it gives nothing", 0, x.output(0));
        Check.same("no strikes of the others", 0, x.strikes(1) + x.strikes(2));
        Check.same("its word stays", 48, x.word(0, 0, 3));
        Check.same("nothing mended", 0, x.mended(0));
        // An even number of flips is no reading: three tell as well as two do.
        Triplane y = Check.running("r0 3");
        y.flip(1, 0, 3, 4);
        y.flip(1, 0, 3, 5);
        y.flip(1, 0, 3, 6);
        Check.same("three flips", 2, y.frame());
        // The vote of that beat is of the others, who give the same.
        Triplane z = Check.running("r0 0", "o0 1");
        z.flip(0, 0, 0, 0);
        z.flip(0, 0, 0, 1);
        z.flip(1, 0, 0, 0);
        z.flip(1, 0, 0, 1);
        Check.same("two are off", 1, z.frame());
        Check.same("the log of two", "1:1m 1:0m", Check.lines(z));
        Check.same("the third one has no strike", 0, z.strikes(2));
    }

    private static void writingForgetsFlips() {
        Triplane x = Check.running("l0 5", "m0 1", "r1 1", "o1 0");
        x.flip(0, 0, 1, 3);
        x.flip(0, 0, 1, 4);
        Check.same("written before it is read", 3, x.frame());
        Check.same("word", 5, x.word(0, 0, 1));
        Check.same("nothing to mend", 0, x.mended(0));
        Check.same("flips count anew", 1, x.flip(0, 0, 1, 4));
    }

    private static void scrubberGoesRound() {
        Triplane x = new Triplane();
        for (int i = 0; i < 18; i++) {
            x.flip(i % 3, i / 6, i % 6, 7);
        }
        int[] mended = new int[3];
        for (int time = 1; time <= 18; time++) {
            int at = time % 18;
            Check.same("ahead of frame " + time, 128, x.word(at % 3, at / 6, at % 6));
            x.frame();
            mended[at % 3]++;
            Check.same("behind frame " + time, 0, x.word(at % 3, at / 6, at % 6));
            for (int i = 0; i < 3; i++) {
                Check.same("mended in frame " + time, mended[i], x.mended(i));
            }
        }
        x.shut(2);
        x.flip(2, 0, 1, 0);
        x.frame();
        Check.same("one that is off is not scrubbed", 1, x.word(2, 0, 1));
        Check.same("nor mended", 6, x.mended(2));
    }

    private static void scrubberTellsTwo() {
        Triplane x = new Triplane();
        for (int i = 0; i < 3; i++) {
            x.flip(i, 0, 2, 0);
            x.flip(i, 0, 2, 1);
        }
        x.flip(1, 0, 2, 1);
        Check.same("frame 1", 3, x.frame());
        Check.same("frame 2", 1, x.frame());
        Check.same("the log", "2:2m 2:0m", Check.lines(x));
        Check.same("mended", 1, x.mended(1));
        Check.same("the word of one that is off", 3, x.word(0, 0, 2));
    }
}
