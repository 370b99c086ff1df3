/** Promises 25 to 27: drifts, lies and clocks. */
final class ClockTest {
    public static void main(String[] args) {
        answers();
        driftsAreHeldTogether();
        aLieIsOutvoted();
        liesAreForOneAndAllAtOnce();
        onlyThreeHoldTogether();
        Check.end();
    }

    private static void answers() {
        Triplane x = new Triplane();
        Check.same("drift", 0, x.drift(0, 9));
        Check.same("drift", 9, x.drift(0, -9));
        Check.same("drift", -9, x.drift(0, 0));
        Check.same("lie", 0, x.lie(0, 1, 999));
        Check.same("lie for the other one", 0, x.lie(0, 2, -999));
        Check.same("lie", 999, x.lie(0, 1, 0));
        Check.same("lie", -999, x.lie(0, 2, 0));
        Check.same("lie the other way", 0, x.lie(1, 0, 5));
        Check.same("clock", 0, x.clock(0));
    }

    private static void driftsAreHeldTogether() {
        Triplane x = new Triplane();
        x.drift(0, 9);
        x.drift(1, 2);
        x.drift(2, -5);
        x.frame();
        for (int i = 0; i < 3; i++) {
            Check.same("the middle of all", 2, x.clock(i));
        }
        x.frame();
        Check.same("from there", 4, x.clock(0));
    }

    private static void aLieIsOutvoted() {
        Triplane x = new Triplane();
        x.drift(0, 1);
        x.drift(1, 1);
        x.drift(2, 1);
        x.lie(0, 1, 999);
        x.lie(0, 2, -999);
        x.frame();
        for (int i = 0; i < 3; i++) {
            Check.same("in spite of lies", 1, x.clock(i));
        }
    }

    private static void liesAreForOneAndAllAtOnce() {
        Triplane x = new Triplane();
        x.lie(1, 0, 100);
        x.lie(2, 0, 50);
        x.frame();
        Check.same("the middle of 0, 100 and 50", 50, x.clock(0));
        Check.same("of 0, 0 and 0", 0, x.clock(1));
        Check.same("of 0, 0 and 0", 0, x.clock(2));
        // All at once: the clocks 50, 0, 0 of before are told, none that is new.
        x.lie(1, 0, 0);
        x.lie(2, 0, 0);
        x.lie(2, 1, 30);
        x.frame();
        Check.same("of 50, 0 and 0", 0, x.clock(0));
        Check.same("of 0, 50 and 30", 30, x.clock(1));
        Check.same("of 0, 50 and 0", 0, x.clock(2));
    }

    private static void onlyThreeHoldTogether() {
        Triplane x = new Triplane();
        x.drift(0, 9);
        x.drift(1, 2);
        x.drift(2, -5);
        x.lie(0, 1, 100);
        x.shut(2);
        x.frame();
        Check.same("of two on", 9, x.clock(0));
        Check.same("of two on", 2, x.clock(1));
        Check.same("off, and more by its drift", -5, x.clock(2));
    }
}
