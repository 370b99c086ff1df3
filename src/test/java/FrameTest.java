/** Promises 5 to 10 and 21: frames, time, mode, outputs, the plain one, overruns. */
final class FrameTest {
    public static void main(String[] args) {
        framesCount();
        slotsRunInTheirOrder();
        onlySlotsOfTheModeRun();
        outputs();
        plainRunsAlone();
        overrunsOfEachSlot();
        Check.end();
    }

    private static void framesCount() {
        Triplane x = new Triplane();
        Check.same("frame", 3, x.frame());
        x.shut(1);
        Check.same("frame with two", 2, x.frame());
        x.shut(0);
        Check.same("frame with one", 1, x.frame());
        x.shut(2);
        Check.same("frame with none", 0, x.frame());
        Check.same("time", 4, x.time());
    }

    private static void slotsRunInTheirOrder() {
        Triplane x = new Triplane();
        for (int i = 0; i < 3; i++) {
            Check.write(x, i, "l0 " + (i + 1), "o0 0");
        }
        x.slot(0, 0, 2);
        x.slot(0, 1, 0);
        x.slot(0, 2, 1);
        x.frame();
        Check.same("the last slot", 2, x.output(0));
        x.slot(0, 2, -1);
        x.frame();
        Check.same("the middle slot", 1, x.output(0));
        x.slot(0, 1, -1);
        x.frame();
        Check.same("the first slot", 3, x.output(0));
    }

    private static void onlySlotsOfTheModeRun() {
        Triplane x = Check.running("r0 0", "l1 1", "a0 1", "m0 0");
        x.slot(1, 1, 1);
        Check.write(x, 1, "l0 5", "m0 1");
        x.frame();
        Check.same("partition 0 ran", 1, x.word(0, 0, 0));
        Check.same("partition 1 did not", 0, x.word(0, 1, 1));
        x.arm('m');
        x.give('m');
        Check.same("mode", 1, x.mode());
        x.frame();
        Check.same("partition 0 did not run", 1, x.word(0, 0, 0));
        Check.same("partition 1 ran", 5, x.word(0, 1, 1));
    }

    private static void outputs() {
        Triplane x = Check.running("l0 -7", "o0 3", "l0 8", "o0 1", "l0 9", "o0 1");
        x.frame();
        Check.same("output 0", 0, x.output(0));
        Check.same("output 1, the latest", 9, x.output(1));
        Check.same("output 3", -7, x.output(3));
        Check.same("plain 1", 9, x.plain(1));
        Check.same("plain 3", -7, x.plain(3));
        x.slot(0, 0, -1);
        x.frame();
        Check.same("an output stays", 9, x.output(1));
    }

    private static void plainRunsAlone() {
        Triplane x = Check.running("r0 0", "l1 1", "a0 1", "m0 0", "o0 2");
        x.frame();
        for (int i = 0; i < 3; i++) {
            x.shut(i);
        }
        Check.same("still as the plain one", true, x.isPlain());
        x.frame();
        Check.same("output with all off", 1, x.output(2));
        Check.same("plain with all off", 2, x.plain(2));
        Check.same("is plain", false, x.isPlain());
        Check.same("words of those off", 1, x.word(0, 0, 0));
        Triplane y = Check.running("l0 3", "o0 0");
        y.stick(0, 0, 0, false);
        y.stick(1, 0, 0, false);
        y.frame();
        Check.same("two wrong ones", 2, y.output(0));
        Check.same("plain", 3, y.plain(0));
        Check.same("is plain", false, y.isPlain());
    }

    private static void overrunsOfEachSlot() {
        Triplane x = Check.running("l0 1", "j0 0");
        x.slot(0, 1, 1);
        x.slot(0, 2, 0);
        x.frame();
        Check.same("two slots", 2, x.overruns(0));
        Check.same("the slot between", 0, x.overruns(1));
        x.frame();
        Check.same("two slots more", 4, x.overruns(0));
    }
}
