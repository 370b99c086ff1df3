/** The least and the greatest answer of each call, and the ones of empty and of full things. */
final class AnswerEdgeTest {
    private static final Edge.State NEW = Triplane::new;

    public static void main(String[] args) {
        sizes();
        slots();
        frames();
        outputs();
        plainOrNot();
        words();
        sticking();
        onAndOff();
        testsAndBacks();
        counts();
        sensors();
        clocks();
        copies();
        actuators();
        commands();
        lines();
        shares();
        means();
        checksums();
        truths();
        Check.end();
    }

    private static void sizes() {
        Edge.promise(2, "Returns how many instructions it has");
        Triplane x = new Triplane();
        for (int i = 1; i <= 10; i++) {
            Check.same("code", i, x.code(1, 'j', 3, 9));
        }
        Edge.promise(3, "Returns how many instructions it had");
        Check.same("a full one", 10, x.clear(1));
        Check.same("an empty one", 0, x.clear(1));
        Check.same("one that was always empty", 0, x.clear(2));
        Edge.promise(2, "Returns how many instructions it has");
        Check.same("behind a clear", 1, x.code(1, 'l', 0, 0));
        Edge.promise(3, "Takes the code of a partition away");
        Triplane y = Check.running("l0 5", "o0 0");
        y.clear(0);
        y.frame();
        Check.same("nothing is done", 0, y.output(0));
        y.code(0, 'o', 0, 1);
        y.frame();
        Check.same("the old code does not come again", 0, y.output(0));
    }

    private static void slots() {
        Edge.promise(4, "Returns the one before");
        for (int i = 0; i < 6; i++) {
            Triplane x = new Triplane();
            Check.same("an empty one", -1, x.slot(i / 3, i % 3, -1));
            Check.same("an empty one", -1, x.slot(i / 3, i % 3, 0));
            Check.same("the partition 0", 0, x.slot(i / 3, i % 3, 2));
            Check.same("the partition 2", 2, x.slot(i / 3, i % 3, 2));
            Check.same("the same one again", 2, x.slot(i / 3, i % 3, -1));
            Check.same("none again", -1, x.slot(i / 3, i % 3, 1));
            for (int j = 0; j < 6; j++) {
                Check.same("the slot " + j, i == j ? 1 : -1, x.slot(j / 3, j % 3, 0));
            }
        }
    }

    private static void frames() {
        Edge.promise(5, "Returns how many computers are on then");
        Triplane x = new Triplane();
        for (int on = 3; on >= 0; on--) {
            Check.same("frame", on, x.frame());
            if (on > 0) {
                x.shut(on - 1);
            }
        }
        Triplane y = new Triplane();
        for (int i = 0; i < 3; i++) {
            y.flip(i, 0, 1, 0);
            y.flip(i, 0, 1, 1);
        }
        Check.same("shut off in it", 0, y.frame());
        Edge.promise(6, "Returns how many frames there were");
        Triplane z = new Triplane();
        for (int i = 0; i < 200; i++) {
            Check.same("time", i, z.time());
            z.frame();
        }
        Edge.promise(7, "Returns the mode");
        Edge.answers("a new one", 0, NEW, v -> v.mode());
        Check.same("mode", 0, z.mode());
        z.arm('m');
        z.give('m');
        Check.same("mode", 1, z.mode());
    }

    private static void outputs() {
        for (int number : new int[] {-32768, -1, 0, 1, 32767}) {
            for (int i = 0; i < 4; i++) {
                Triplane x = Check.running("l0 " + number, "o0 " + i);
                x.frame();
                for (int j = 0; j < 4; j++) {
                    Edge.promise(8, "Returns the number");
                    Check.same("the output " + j, i == j ? number : 0, x.output(j));
                    Edge.promise(9, "Returns the number");
                    Check.same("the plain one's " + j, i == j ? number : 0, x.plain(j));
                }
            }
        }
    }

    private static void plainOrNot() {
        Edge.promise(10, "Returns whether they are");
        Edge.answers("a new one", true, NEW, x -> x.isPlain());
        for (int i = 0; i < 4; i++) {
            Triplane x = Check.running("l0 4", "o0 " + i);
            x.stick(0, 0, 0, true);
            x.stick(1, 0, 0, true);
            x.frame();
            Check.same("all but one", false, x.isPlain());
            x.clear(0);
            Check.write(x, 0, "l0 5", "o0 " + i);
            x.frame();
            Check.same("all", true, x.isPlain());
        }
    }

    private static void words() {
        Edge.promise(11, "Returns the number");
        for (int i = 0; i < 54; i++) {
            Triplane x = new Triplane();
            x.flip(i / 18, i / 6 % 3, i % 6, 15);
            for (int j = 0; j < 54; j++) {
                Check.same("the word " + j, i == j ? -32768 : 0, x.word(j / 18, j / 6 % 3, j % 6));
            }
        }
        Edge.promise(12, "Returns how many bits of it are flipped then");
        Triplane y = new Triplane();
        for (int bit = 0; bit < 16; bit++) {
            Check.same("flip", bit + 1, y.flip(2, 2, 5, bit));
        }
        for (int bit = 0; bit < 16; bit++) {
            Check.same("flip back", 15 - bit, y.flip(2, 2, 5, bit));
        }
    }

    private static void sticking() {
        Edge.promise(13, "Returns whether one stuck before");
        Edge.answers("none", false, NEW, x -> x.stick(2, 3, 15, true));
        Edge.answers("one of another computer", false, States::busy, x -> x.stick(2, 3, 4, true));
        Edge.answers("the same one", true, States::busy, x -> x.stick(0, 3, 4, true));
        Edge.promise(14, "Returns whether a bit stuck");
        Edge.answers("none", false, NEW, x -> x.fix(2));
        Edge.answers("one", true, States::busy, x -> x.fix(0));
        Edge.answers("one of another computer", false, States::busy, x -> x.fix(1));
    }

    private static void onAndOff() {
        for (int i = 0; i < 3; i++) {
            int off = i;
            Triplane x = new Triplane();
            x.shut(off);
            Edge.promise(15, "Returns whether it is");
            for (int j = 0; j < 3; j++) {
                Check.same("on", j != off, x.isOn(j));
            }
            Edge.promise(17, "Returns how many are on then");
            Check.same("one is left", 1, x.shut((off + 1) % 3));
            Check.same("none is left", 0, x.shut((off + 2) % 3));
            Edge.answers("two are left", 2, NEW, y -> y.shut(off));
        }
        Edge.promise(16, "Returns how many");
        Triplane z = Check.running("l0 4", "o0 0");
        z.stick(1, 0, 0, true);
        for (int strikes = 0; strikes <= 3; strikes++) {
            Check.same("strikes", strikes, z.strikes(1));
            z.frame();
        }
        Check.same("never more", 3, z.strikes(1));
    }

    private static void testsAndBacks() {
        Edge.promise(18, "Returns whether it passes; one that does not stays as it is");
        Edge.answers("without a bit that sticks", true, States::allOff, x -> x.test(1));
        Edge.answers("with one", false, States::allOff, x -> x.test(0));
        Triplane x = States.allOff();
        x.test(0);
        Check.same("it has the bit still", true, x.fix(0));
        Check.same("it is off", false, x.isOn(0));
        // A test that fails, of one that is off and not tested, is as if it had not been made.
        Triplane y = States.allOff();
        y.test(0);
        Check.same("all stays as it is", Probe.of(States.allOff()), Probe.of(y));
        Edge.promise(19, "Returns how many are on then");
        Triplane z = new Triplane();
        z.shut(0);
        z.shut(1);
        z.test(0);
        z.test(1);
        Check.same("two are on", 2, z.back(1));
        Check.same("three are on", 3, z.back(0));
    }

    private static void counts() {
        Edge.promise(20, "Returns how many");
        Triplane x = new Triplane();
        for (int i = 0; i < 60; i++) {
            Check.same("mended", i, x.mended(2));
            x.flip(2, (i + 1) % 18 / 6, (i + 1) % 6, i % 16);
            x.frame();
        }
        x.shut(2);
        x.test(2);
        x.back(2);
        Check.same("mended, of one that came back", 60, x.mended(2));
        Edge.promise(21, "Returns how many");
        Triplane y = Check.running("l0 1", "j0 1");
        y.slot(0, 1, 0);
        y.slot(0, 2, 0);
        for (int i = 0; i < 50; i++) {
            Check.same("overruns", 3 * i, y.overruns(0));
            Check.same("of another one", 0, y.overruns(1));
            y.frame();
        }
        y.clear(0);
        y.frame();
        Check.same("overruns, with the code gone", 150, y.overruns(0));
    }

    private static void sensors() {
        Edge.promise(22, "Returns the middle");
        Edge.answers("the least", -32768, NEW, x -> x.read(0, -32768, 32767, -32768));
        Edge.answers("the greatest", 32767, NEW, x -> x.read(3, 32767, 32767, -32768));
        Edge.promise(23, "Returns the one before");
        Edge.answers("at first", 32767, NEW, x -> x.limit(3, 0));
        Triplane y = new Triplane();
        y.limit(0, 0);
        Check.same("the least", 0, y.limit(0, 32767));
        Check.same("the greatest", 32767, y.limit(0, 0));
        Edge.promise(24, "Returns the number");
        y.limit(0, 32767);
        y.read(0, 32767, 32767, 32767);
        y.read(3, -32768, -32768, -32768);
        Check.frames(y, 3);
        Check.same("the greatest", 32767, y.agreed(0));
        Check.same("the least", -32768, y.agreed(3));
        Check.same("never read", 0, y.agreed(1));
    }

    private static void clocks() {
        Edge.promise(25, "Returns the one before");
        Triplane x = new Triplane();
        for (int i = 0; i < 3; i++) {
            Check.same("at first", 0, x.drift(i, 9));
            Check.same("the greatest", 9, x.drift(i, -9));
            Check.same("the least", -9, x.drift(i, 0));
        }
        Edge.promise(26, "Returns the one before");
        for (int i = 0; i < 6; i++) {
            int computer = i / 2;
            int other = (computer + 1 + i % 2) % 3;
            Check.same("at first", 0, x.lie(computer, other, 999));
            Check.same("the greatest", 999, x.lie(computer, other, -999));
            Check.same("the least", -999, x.lie(computer, other, i + 1));
        }
        for (int i = 0; i < 6; i++) {
            Check.same("each its own", i + 1, x.lie(i / 2, (i / 2 + 1 + i % 2) % 3, 0));
        }
        Edge.promise(27, "Returns the clock");
        for (int drift = -9; drift <= 9; drift += 9) {
            Triplane y = new Triplane();
            y.drift(0, drift);
            y.shut(1);
            Check.frames(y, 500);
            Check.same("behind 500 frames", 500 * drift, y.clock(0));
        }
    }

    private static void copies() {
        Edge.promise(28, "Returns how many good copies there are then");
        Triplane x = new Triplane();
        boolean[] cuts = {true, false, true, false, false, true, true, false};
        int[] due = {0, 1, 1, 2, 2, 1, 1, 2};
        for (int i = 0; i < due.length; i++) {
            Check.same("the save " + i, due[i], x.save(1, cuts[i]));
        }
        Edge.promise(29, "Returns the word 0 of the copy");
        Edge.answers("of words that were never written", 0, () -> x, y -> y.load(1));
    }

    private static void actuators() {
        Edge.promise(30, "Returns the one before");
        Triplane x = new Triplane();
        for (int i = 0; i < 12; i++) {
            Check.same("at first", 0, x.fault(i / 3, i % 3, 999));
            Check.same("the greatest", 999, x.fault(i / 3, i % 3, -999));
            Check.same("the least", -999, x.fault(i / 3, i % 3, i + 1));
        }
        for (int i = 0; i < 12; i++) {
            Check.same("each its own", i + 1, x.fault(i / 3, i % 3, 0));
        }
        Edge.promise(31, "Returns the position, 0 at first");
        Edge.answers("at first", 0, NEW, y -> y.position(3));
        for (int sign = -1; sign <= 1; sign += 2) {
            int number = sign < 0 ? -32768 : 32767;
            Triplane y = Check.running("l0 " + number, "o0 3");
            y.fault(3, 0, 999 * sign);
            y.fault(3, 1, 999 * sign);
            y.fault(3, 2, 999 * sign);
            Check.same("ahead of the frame", 0, y.position(3));
            y.frame();
            Check.same("as far as can be", number + 999 * sign, y.position(3));
        }
        Edge.promise(32, "Returns whether it has");
        Edge.answers("at first", false, NEW, y -> y.hasLetGo(3));
        Edge.answers("100 above", false, () -> faulty(100), y -> y.hasLetGo(3));
        Edge.answers("101 above", true, () -> faulty(101), y -> y.hasLetGo(3));
    }

    private static Triplane faulty(int by) {
        Triplane x = new Triplane();
        x.fault(3, 2, by);
        x.frame();
        return x;
    }

    private static void commands() {
        Edge.promise(33, "Returns until behind which time it can be given");
        Triplane x = new Triplane();
        for (int time = 0; time < 20; time++) {
            Check.same("arm", time + 3, x.arm('m'));
            Check.same("arm", time + 3, x.arm('a'));
            x.frame();
        }
        Triplane y = new Triplane();
        int until = y.arm('a');
        while (y.time() < until) {
            y.frame();
        }
        Check.same("at that time", false, Edge.isRefused(y, z -> z.give('a')));
        Edge.promise(34, "Returns for 'm' the mode that runs next, for 'a' how many are reset");
        Triplane w = new Triplane();
        for (int i = 0; i < 4; i++) {
            w.fault(i, i % 3, -999);
        }
        w.frame();
        w.arm('m');
        Check.same("the mode", 1, w.give('m'));
        w.arm('m');
        Check.same("the mode", 0, w.give('m'));
        w.arm('a');
        Check.same("all four", 4, w.give('a'));
        w.arm('a');
        Check.same("none", 0, w.give('a'));
    }

    private static void lines() {
        Edge.promise(35, "Returns the number");
        Triplane x = new Triplane();
        x.shut(0);
        Check.frames(x, 400);
        x.shut(2);
        Check.same("the time", 400, x.line(0, 't'));
        Check.same("the computer", 2, x.line(0, 'c'));
        Check.same("the letter", 104, x.line(0, 'r'));
        Check.same("the least time", 0, x.line(1, 't'));
        Check.same("the least computer", 0, x.line(1, 'c'));
    }

    private static void shares() {
        Edge.promise(36, "Returns their number divided by 3, both converted to float");
        float[] due = {0f, 1f / 3f, 2f / 3f, 1f};
        Triplane x = new Triplane();
        for (int on = 3; on >= 0; on--) {
            Check.sameReal(on + " on", due[on], x.onShare());
            if (on > 0) {
                x.shut(3 - on);
            }
        }
    }

    private static double mean(int one, int two, int three, int four) {
        Triplane x = Check.running("l0 " + one, "o0 0", "l0 " + two, "o0 1");
        Check.write(x, 0, "l0 " + three, "o0 2", "l0 " + four, "o0 3");
        x.frame();
        return x.meanOutput();
    }

    private static void means() {
        Edge.promise(37, "Returns the sum divided by 4, both converted to double");
        Check.sameReal("at first", 0, new Triplane().meanOutput());
        Check.sameReal("the greatest, and the sum does not go round", 32767, mean(32767, 32767, 32767, 32767));
        Check.sameReal("the least", -32768, mean(-32768, -32768, -32768, -32768));
        Check.sameReal("a fourth", 0.25, mean(0, 0, 0, 1));
        Check.sameReal("a fourth below", -0.25, mean(-1, 0, 0, 0));
        Check.sameReal("three fourths", 32766.75, mean(32767, 32767, 32767, 32766));
        Check.sameReal("least and greatest", -0.5, mean(-32768, 32767, 32767, -32768));
    }

    private static void checksums() {
        Edge.promise(38, "Returns 7 at first, then for each output 31 times itself plus the number");
        long first = 7;
        for (int i = 0; i < 61; i++) {
            first *= 31;
        }
        Edge.answers("a new one", first, NEW, x -> x.checksum());
        // Each number counts by a power of 31 that tells where it stands; the last one by 1.
        for (int i = 0; i < 54; i++) {
            Triplane x = new Triplane();
            x.flip(i / 18, i / 6 % 3, i % 6, 15);
            Check.same("the word " + i, first - 32768 * power(56 - i), x.checksum());
        }
        for (int i = 0; i < 4; i++) {
            Triplane x = Check.running("l0 -32768", "o0 " + i);
            x.frame();
            Check.same("the output " + i, first - 32768 * power(60 - i), x.checksum());
        }
        for (int i = 0; i < 3; i++) {
            Triplane x = Check.running("o0 0");
            x.shut((i + 1) % 3);
            x.stick(i, 0, 3, true);
            x.drift((i + 2) % 3, -9);
            x.frame();
            long due = first + 100 * power(2 - i) + (100 - 9) * power(2 - (i + 2) % 3);
            Check.same("a clock and strikes of " + i, due, x.checksum());
        }
    }

    private static long power(int exponent) {
        long product = 1;
        for (int i = 0; i < exponent; i++) {
            product *= 31;
        }
        return product;
    }

    private static void truths() {
        Edge.promise(39, "Returns whether all of it holds");
        Edge.answers("a new one", true, NEW, x -> x.isTrue());
        Edge.answers("a busy one", true, States::busy, x -> x.isTrue());
        Edge.answers("a later one", true, States::later, x -> x.isTrue());
        Edge.answers("one that is off", true, States::allOff, x -> x.isTrue());
        truthsOfEachReason();
    }

    /** Outputs that are not those of the plain one, for one reason alone. */
    private static void truthsOfEachReason() {
        Edge.promise(39, "if no bit was ever flipped or stuck, and some computer was on in all frames");
        Triplane x = Check.running("l0 8", "r1 0", "o0 0");
        for (int i = 0; i < 3; i++) {
            x.flip(i, 0, 0, 0);
            x.flip(i, 0, 0, 1);
        }
        Check.same("flipped, and on as the frame began", 0, x.frame());
        Check.same("not as the plain one", false, x.isPlain());
        Check.same("true", true, x.isTrue());
        Triplane y = Check.running("l0 8", "o0 0");
        for (int i = 0; i < 3; i++) {
            y.shut(i);
            Check.same("none but lines of being shut off", true, y.isTrue());
        }
        y.frame();
        Check.same("not as the plain one", false, y.isPlain());
        Check.same("a frame with none on", true, y.isTrue());
        Triplane z = Check.running("l0 8", "o0 0");
        z.stick(0, 0, 0, true);
        z.stick(1, 0, 0, true);
        for (int i = 0; i < 6; i++) {
            z.frame();
            Check.same("stuck, and with strikes", true, z.isTrue());
            Check.same("not as the plain one", false, z.isPlain());
        }
    }
}
