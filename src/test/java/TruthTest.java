/** Promise 39: isTrue holds in ordinary and in odd states. */
final class TruthTest {
    public static void main(String[] args) {
        withoutFaults();
        withFaults();
        withAllOff();
        withAFullLog();
        Check.end();
    }

    private static void withoutFaults() {
        Triplane x = Check.running("r0 0", "i1 0", "a0 1", "m0 0", "o0 0");
        for (int i = 0; i < 12; i++) {
            x.read(0, i, 2 * i, -i);
            x.frame();
            x.shut(i % 3);
            Check.same("true", true, x.isTrue());
            x.frame();
            x.test(i % 3);
            x.back(i % 3);
            Check.same("as the plain one", true, x.isPlain());
            Check.same("true", true, x.isTrue());
        }
    }

    private static void withFaults() {
        Triplane x = Check.running("l0 8", "o0 0");
        x.stick(0, 0, 0, true);
        x.stick(1, 0, 0, true);
        for (int i = 0; i < 5; i++) {
            x.frame();
            Check.same("not as the plain one", false, x.isPlain());
            Check.same("true nevertheless", true, x.isTrue());
        }
        x.fix(0);
        x.fix(1);
        Check.same("true once it was stuck", true, x.isTrue());
        Triplane y = Check.running("r0 0", "o0 0");
        y.flip(0, 0, 0, 0);
        y.flip(0, 0, 0, 0);
        y.frame();
        Check.same("true once it was flipped", true, y.isTrue());
        Triplane z = Check.running("l0 8", "r1 0", "o0 0");
        for (int i = 0; i < 3; i++) {
            z.flip(i, 0, 0, 0);
            z.flip(i, 0, 0, 1);
        }
        Check.same("all are shut off", 0, z.frame());
        Check.same("not as the plain one", false, z.isPlain());
        Check.same("true nevertheless", true, z.isTrue());
    }

    private static void withAllOff() {
        Triplane x = Check.running("l0 8", "o0 0");
        x.shut(0);
        x.shut(1);
        x.shut(2);
        Check.same("true", true, x.isTrue());
        x.frame();
        Check.same("not as the plain one", false, x.isPlain());
        Check.same("true nevertheless", true, x.isTrue());
    }

    private static void withAFullLog() {
        Triplane x = new Triplane();
        x.shut(0);
        for (int i = 0; i < 20; i++) {
            x.shut(1);
            x.test(1);
            x.back(1);
            Check.same("true, though the line of 0 may be gone", true, x.isTrue());
        }
    }
}
