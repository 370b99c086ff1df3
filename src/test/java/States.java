/** States that a refused call must leave as they are; each is made by fewer than 100 calls. */
final class States {
    private States() {
    }

    /** Something of all kinds: 'm' is armed, 1 is off and tested, 0 has a bit that sticks, sensor 1 was far twice. */
    static Triplane busy() {
        Triplane x = working();
        x.shut(1);
        x.test(1);
        x.arm('m');
        return x;
    }

    /** As busy, but 'a' was armed two frames ahead, 1 is off and not tested, and the sensor 1 was far once. */
    static Triplane later() {
        Triplane x = working();
        x.shut(1);
        x.arm('a');
        x.frame();
        x.read(1, -50, -60, -70);
        x.frame();
        x.save(0, false);
        x.flip(0, 2, 5, 1);
        return x;
    }

    /** All are off, one of them tested, and one copy is good. */
    static Triplane allOff() {
        Triplane x = working();
        for (int i = 0; i < 3; i++) {
            x.shut(i);
        }
        x.test(2);
        x.arm('a');
        return x;
    }

    private static Triplane working() {
        Triplane x = new Triplane();
        Check.write(x, 0, "r0 0", "i1 1", "a0 1", "m0 0", "o0 0", "l2 1", "j2 9");
        Check.write(x, 1, "l0 1", "m0 5", "o0 1", "j0 0");
        Check.write(x, 2, "o3 3", "l0 9", "m0 0", "l1 4", "s0 1", "m0 1", "r2 2", "o2 2", "i2 2", "m2 2");
        x.slot(0, 0, 0);
        x.slot(0, 1, 1);
        x.slot(0, 2, 2);
        x.slot(1, 0, 2);
        x.slot(1, 2, 0);
        x.limit(1, 5);
        x.read(1, 50, 50, 60);
        x.read(2, 7, 8, 9);
        x.drift(0, 3);
        x.drift(1, -2);
        x.drift(2, 9);
        x.lie(0, 1, 100);
        x.lie(2, 0, -50);
        x.lie(1, 2, 7);
        x.fault(0, 0, 40);
        x.fault(1, 1, 200);
        x.fault(2, 2, -30);
        x.stick(0, 3, 4, true);
        x.frame();
        x.save(0, false);
        x.save(1, true);
        x.frame();
        x.flip(0, 1, 3, 2);
        x.flip(2, 2, 1, 15);
        return x;
    }
}
