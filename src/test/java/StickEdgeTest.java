/** The edges of 'Sticking'. */
final class StickEdgeTest {
    public static void main(String[] args) {
        allBitsOfAllRegisters();
        setOrNot();
        setAlready();
        asTheSlotBegins();
        inAllPartitions();
        whateverItBecomes();
        otherRegistersAndComputers();
        atMostOne();
        fixed();
        notTheNumberThatGoesRound();
        Check.end();
    }

    private static Triplane alone(int computer, String... instructions) {
        Triplane x = Check.running(instructions);
        x.shut((computer + 1) % 3);
        x.shut((computer + 2) % 3);
        return x;
    }

    private static void allBitsOfAllRegisters() {
        Edge.term("A register number of a computer can have one bit that sticks");
        for (int i = 0; i < 64; i++) {
            int register = i / 16;
            int bit = i % 16;
            Triplane x = alone(i % 3, "l" + register + " 0", "o" + register + " 0");
            Check.write(x, 0, "l" + register + " -1", "o" + register + " 1");
            Check.same("none stuck", false, x.stick(i % 3, register, bit, true));
            x.frame();
            Check.same("as set", (short) (1 << bit), x.output(0));
            Check.same("set already", -1, x.output(1));
            Check.same("the plain one", 0, x.plain(0));
            Check.same("one stuck", true, x.stick(i % 3, register, bit, false));
            x.frame();
            Check.same("not set already", 0, x.output(0));
            Check.same("as not set", (short) ~(1 << bit), x.output(1));
            Check.same("the plain one", -1, x.plain(1));
        }
    }

    private static void setOrNot() {
        Edge.promise(13, "whether it sticks as set");
        Triplane x = alone(1, "o2 0", "l2 7", "o2 1");
        x.stick(1, 2, 1, false);
        x.frame();
        Check.same("0, not set", 0, x.output(0));
        Check.same("7, not set", 5, x.output(1));
        x.stick(1, 2, 1, true);
        x.frame();
        Check.same("0, set", 2, x.output(0));
        Check.same("7, set", 7, x.output(1));
    }

    private static void setAlready() {
        Edge.term("that bit is then as it sticks");
        Triplane x = Check.running("l0 5", "o0 0");
        x.stick(0, 0, 2, true);
        x.stick(1, 0, 1, false);
        x.frame();
        Check.same("the output", 5, x.output(0));
        Check.same("no strikes", 0, x.strikes(0) + x.strikes(1) + x.strikes(2));
    }

    private static void asTheSlotBegins() {
        Edge.term("whenever this register is 0 as a slot begins");
        for (int register = 0; register < 4; register++) {
            Triplane x = alone(2, "o" + register + " 0", "l" + register + " 3", "o" + register + " 1");
            x.stick(2, register, 4, true);
            Check.same("ahead of the frame", 0, x.output(0));
            x.slot(0, 1, 0);
            x.frame();
            Check.same("as the slot begins", 16, x.output(0));
            Check.same("behind", 19, x.output(1));
        }
    }

    private static void inAllPartitions() {
        Edge.term("one bit that sticks, in all partitions");
        Triplane x = alone(1);
        for (int i = 0; i < 3; i++) {
            Check.write(x, i, "o3 " + i);
            x.slot(0, i, i);
        }
        x.stick(1, 3, 0, true);
        x.frame();
        for (int i = 0; i < 3; i++) {
            Check.same("the partition " + i, 1, x.output(i));
        }
    }

    private static void whateverItBecomes() {
        Edge.term("or becomes something");
        String[][] ways = {
            {"l0 4", "o0 0"}, {"l1 4", "a0 1", "s0 2", "o0 0"}, {"l1 -4", "s0 1", "o0 0"},
            {"l1 4", "m1 3", "r0 3", "o0 0"}, {"i0 2", "o0 0"},
        };
        int[] due = {6, 6, 6, 6, 6};
        for (int i = 0; i < ways.length; i++) {
            Triplane x = alone(0, ways[i]);
            x.read(2, 4, 4, 4);
            x.stick(0, 0, 1, true);
            x.frame();
            Check.same("the way " + i, due[i], x.output(0));
        }
        Triplane y = alone(0, "l0 4", "m0 3", "o0 0");
        y.stick(0, 0, 1, true);
        y.frame();
        Check.same("a word that becomes the register", 6, y.word(0, 0, 3));
        Triplane z = alone(0, "l1 5", "j0 3", "o1 0", "o1 1");
        z.stick(0, 0, 15, true);
        z.frame();
        Check.same("no jump below 0", 5, z.output(0));
    }

    private static void otherRegistersAndComputers() {
        Edge.term("A register number of a computer can have one bit that sticks");
        for (int register = 0; register < 4; register++) {
            Triplane x = alone(1, "o0 0", "o1 1", "o2 2", "o3 3");
            x.stick(1, register, 6, true);
            x.frame();
            for (int i = 0; i < 4; i++) {
                Check.same("the register " + i, i == register ? 64 : 0, x.output(i));
            }
            Triplane y = alone(0, "o0 0", "o1 1", "o2 2", "o3 3");
            y.stick(1, register, 6, true);
            y.frame();
            Check.same("another computer", true, y.isPlain());
        }
    }

    private static void atMostOne() {
        Edge.term("A computer has at most one such bit; a new one takes the place of the one there");
        Triplane x = alone(0, "o0 0", "o1 1");
        Check.same("stick", false, x.stick(0, 0, 3, true));
        Check.same("another register", true, x.stick(0, 1, 4, true));
        x.frame();
        Check.same("the old one", 0, x.output(0));
        Check.same("the new one", 16, x.output(1));
        Check.same("another bit of it", true, x.stick(0, 1, 5, true));
        x.frame();
        Check.same("the new bit", 32, x.output(1));
        Check.same("the same one the other way", true, x.stick(0, 1, 5, false));
        x.frame();
        Check.same("not set", 0, x.output(1));
        Check.same("one to fix", true, x.fix(0));
        Check.same("and no other one", false, x.fix(0));
    }

    private static void fixed() {
        Edge.term("To fix a computer takes it away");
        Triplane x = alone(0, "o0 0", "l0 5", "o0 1");
        x.stick(0, 0, 3, true);
        x.stick(1, 0, 3, true);
        x.frame();
        Check.same("stuck as the slot began", 8, x.output(0));
        Check.same("stuck", 13, x.output(1));
        Check.same("fix", true, x.fix(0));
        x.frame();
        Check.same("as the slot begins", 0, x.output(0));
        Check.same("what it becomes", 5, x.output(1));
        Check.same("the other one's is still there", true, x.fix(1));
        Check.same("stuck behind a fix", false, x.stick(0, 0, 3, true));
    }

    private static void notTheNumberThatGoesRound() {
        Edge.term("what would be above or below goes round");
        Triplane x = alone(0, "l0 32767", "l1 1", "a0 1", "o0 0", "l0 -32768", "s0 1", "o0 1");
        x.stick(0, 0, 15, true);
        x.frame();
        Check.same("-1 and 1, with the bit 15", -32768, x.output(0));
        Check.same("-32768 less 1, with the bit 15", -1, x.output(1));
        x.stick(0, 0, 15, false);
        x.frame();
        Check.same("32767 and 1, without it", 0, x.output(0));
        Check.same("0 less 1, without it", 32767, x.output(1));
    }
}
