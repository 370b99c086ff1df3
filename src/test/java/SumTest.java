/** Promises 36 to 38: the share, the mean, the checksum. */
final class SumTest {
    public static void main(String[] args) {
        shares();
        means();
        checksums();
        Check.end();
    }

    private static void shares() {
        Triplane x = new Triplane();
        Check.sameReal("three", 1.0f, x.onShare());
        x.shut(0);
        Check.sameReal("two", 2f / 3f, x.onShare());
        x.shut(2);
        Check.sameReal("one", 1f / 3f, x.onShare());
        x.shut(1);
        Check.sameReal("none", 0f, x.onShare());
    }

    private static void means() {
        Triplane x = Check.running("l0 3", "o0 0", "l0 -8", "o0 2", "l0 6", "o0 3");
        Check.sameReal("at first", 0, x.meanOutput());
        x.frame();
        Check.sameReal("a fraction", 0.25, x.meanOutput());
        Triplane y = Check.running("l0 32767", "o0 0", "o0 1", "o0 2", "o0 3");
        y.frame();
        Check.sameReal("the greatest", 32767, y.meanOutput());
        Triplane z = Check.running("l0 -1", "o0 1");
        z.frame();
        Check.sameReal("below 0", -0.25, z.meanOutput());
    }

    private static long due(Triplane x) {
        long sum = 7;
        for (int i = 0; i < 4; i++) {
            sum = sum * 31 + x.output(i);
        }
        for (int computer = 0; computer < 3; computer++) {
            for (int partition = 0; partition < 3; partition++) {
                for (int word = 0; word < 6; word++) {
                    sum = sum * 31 + x.word(computer, partition, word);
                }
            }
        }
        for (int i = 0; i < 3; i++) {
            sum = sum * 31 + x.clock(i) + 100 * x.strikes(i);
        }
        return sum;
    }

    private static void checksums() {
        Triplane x = Check.running("l0 3", "o0 0", "m0 4", "l0 -8", "o0 2", "m0 1");
        Check.same("at first", due(x), x.checksum());
        x.flip(1, 2, 5, 15);
        x.stick(2, 0, 6, true);
        x.drift(0, 9);
        x.drift(1, 5);
        x.lie(1, 0, 77);
        Check.frames(x, 2);
        Check.same("strikes", 2, x.strikes(2));
        Check.same("with flips, strikes and clocks", due(x), x.checksum());
        // 7 times 31 to the 61st, in 64 bits.
        long power = 7;
        for (int i = 0; i < 61; i++) {
            power *= 31;
        }
        Check.same("of a new one", power, new Triplane().checksum());
    }
}
