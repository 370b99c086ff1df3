/** The edges of 'Actuators'. */
final class ActuatorEdgeTest {
    public static void main(String[] args) {
        atFirst();
        threeChannelsOfEachOutput();
        theMiddleOne();
        onlyBehindAFrame();
        ahundredAbove();
        whereverTheyAre();
        letGoTillAReset();
        theFrameBehindAReset();
        resetThatComesTooEarly();
        notRound();
        withNoneOn();
        Check.end();
    }

    private static Triplane giving(int number) {
        return Check.running("l0 " + number, "o0 0", "o0 1", "o0 2", "o0 3");
    }

    private static Triplane with(int number, int... faults) {
        Triplane x = giving(number);
        for (int i = 0; i < 3; i++) {
            x.fault(2, i, faults[i]);
        }
        return x;
    }

    private static void atFirst() {
        Edge.term("at its number more by a fault of each, 0 at first");
        Triplane x = new Triplane();
        for (int i = 0; i < 12; i++) {
            Check.same("the fault", 0, x.fault(i / 3, i % 3, 0));
        }
        Triplane y = giving(60);
        y.frame();
        for (int i = 0; i < 4; i++) {
            Check.same("the position", 60, y.position(i));
            Check.same("lets go", false, y.hasLetGo(i));
        }
    }

    private static void threeChannelsOfEachOutput() {
        Edge.term("Each output drives three channels");
        for (int i = 0; i < 12; i++) {
            Triplane x = giving(60);
            x.fault(i / 3, i % 3, 101);
            x.frame();
            for (int output = 0; output < 4; output++) {
                Check.same("the output " + output, output == i / 3, x.hasLetGo(output));
                Check.same("its position", output == i / 3 ? 0 : 60, x.position(output));
            }
        }
    }

    private static void theMiddleOne() {
        Edge.term("Behind a frame, the position is the middle one");
        int[] faults = {-40, -1, 0, 1, 60};
        for (int i = 0; i < 125; i++) {
            int[] three = {faults[i / 25], faults[i / 5 % 5], faults[i % 5]};
            Triplane x = with(7, three);
            x.frame();
            java.util.Arrays.sort(three);
            Check.same("the middle of " + java.util.Arrays.toString(three), 7 + three[1], x.position(2));
        }
    }

    private static void onlyBehindAFrame() {
        Edge.term("Behind a frame, the position is");
        Triplane x = with(7, 0, 0, 0);
        x.frame();
        x.fault(2, 0, 5);
        x.fault(2, 1, 6);
        Check.same("as it was", 7, x.position(2));
        x.fault(2, 2, 500);
        Check.same("it holds", false, x.hasLetGo(2));
        x.fault(2, 2, 0);
        x.frame();
        Check.same("the middle one", 12, x.position(2));
        Check.same("it held all the while", false, x.hasLetGo(2));
    }

    private static void ahundredAbove() {
        Edge.term("if the greatest is more than 100 above the least one, it lets go");
        int[][] orders = {{0, 1, 2}, {0, 2, 1}, {1, 0, 2}, {1, 2, 0}, {2, 0, 1}, {2, 1, 0}};
        for (int[] order : orders) {
            for (int above = 99; above <= 102; above++) {
                int[] sorted = {-50, 10, above - 50};
                Triplane x = with(7, sorted[order[0]], sorted[order[1]], sorted[order[2]]);
                x.frame();
                Check.same(above + " above", above > 100, x.hasLetGo(2));
                Check.same("the position", above > 100 ? 0 : 17, x.position(2));
            }
        }
        for (int channel = 0; channel < 3; channel++) {
            for (int sign = -1; sign <= 1; sign += 2) {
                Triplane x = giving(7);
                x.fault(2, channel, 100 * sign);
                x.frame();
                Check.same("100 of one", false, x.hasLetGo(2));
                x.fault(2, channel, 101 * sign);
                x.frame();
                Check.same("101 of one", true, x.hasLetGo(2));
            }
        }
    }

    private static void whereverTheyAre() {
        Edge.term("if the greatest is more than 100 above the least one, it lets go");
        for (int number : new int[] {-32768, 0, 32767}) {
            for (int least : new int[] {-999, -100, 0, 899}) {
                Triplane x = with(number, least, least + 50, least + 100);
                x.frame();
                Check.same("100 above", false, x.hasLetGo(2));
                Check.same("the position", number + least + 50, x.position(2));
                int most = least == 899 ? 999 : least + 101;
                x.fault(2, 2, most);
                x.fault(2, 0, most - 101);
                x.frame();
                Check.same("101 above", true, x.hasLetGo(2));
            }
        }
        Triplane y = with(7, 999, 999, 999);
        y.frame();
        Check.same("all far from the number", 1006, y.position(2));
        Triplane z = with(7, -999, 999, 0);
        z.frame();
        Check.same("as far as can be", true, z.hasLetGo(2));
    }

    private static void letGoTillAReset() {
        Edge.term("it lets go: the position is 0 then, till a frame behind a reset");
        Triplane x = with(7, 0, 0, 100);
        x.frame();
        Check.same("it holds", 7, x.position(2));
        x.fault(2, 2, 101);
        x.frame();
        Check.same("it lets go", 0, x.position(2));
        x.fault(2, 2, 0);
        for (int i = 0; i < 4; i++) {
            x.frame();
            Check.same("it has let go", true, x.hasLetGo(2));
            Check.same("its position", 0, x.position(2));
        }
        x.arm('a');
        x.frame();
        Check.same("armed only", true, x.hasLetGo(2));
        Check.same("its position", 0, x.position(2));
    }

    private static void reset(Triplane x, int count) {
        x.arm('a');
        Check.same("reset", count, x.give('a'));
    }

    private static void theFrameBehindAReset() {
        Edge.term("the position is 0 then, till a frame behind a reset");
        Triplane x = with(7, 0, 0, 101);
        x.frame();
        x.fault(2, 2, 100);
        reset(x, 1);
        Check.same("ahead of the frame", 0, x.position(2));
        Check.same("ahead of the frame", false, x.hasLetGo(2));
        reset(x, 0);
        x.frame();
        Check.same("behind it", 7, x.position(2));
        Check.same("behind it", false, x.hasLetGo(2));
    }

    private static void resetThatComesTooEarly() {
        Edge.term("if the greatest is more than 100 above the least one, it lets go: the position is 0 then");
        Triplane x = with(7, 0, 0, 101);
        x.frame();
        reset(x, 1);
        x.frame();
        Check.same("anew", true, x.hasLetGo(2));
        Check.same("its position", 0, x.position(2));
        reset(x, 1);
        Triplane y = with(7, 0, 0, 101);
        reset(y, 0);
        y.frame();
        Check.same("a reset ahead of it", true, y.hasLetGo(2));
    }

    private static void notRound() {
        Edge.term("These numbers do not go round");
        Triplane x = with(32767, 1, 1, 1);
        x.frame();
        Check.same("one above", 32768, x.position(2));
        Triplane y = with(-32768, -1, -1, -1);
        y.frame();
        Check.same("one below", -32769, y.position(2));
        Triplane z = with(32767, 999, 999, 999);
        z.frame();
        Check.same("most above", 33766, z.position(2));
        Triplane w = with(-32768, -999, -999, -999);
        w.frame();
        Check.same("most below", -33767, w.position(2));
        Triplane v = with(32767, -50, 0, 50);
        v.frame();
        Check.same("not far apart", false, v.hasLetGo(2));
        Check.same("the output", 32767, v.position(2));
        Triplane u = with(-32768, -50, -1, 50);
        u.frame();
        Check.same("not far apart", false, u.hasLetGo(2));
        Check.same("the middle one", -32769, u.position(2));
    }

    private static void withNoneOn() {
        Edge.term("Behind a frame, the position is the middle one");
        Triplane x = with(7, 0, 0, 0);
        x.frame();
        x.shut(0);
        x.shut(1);
        x.shut(2);
        x.fault(2, 0, 5);
        x.fault(2, 1, 6);
        x.frame();
        Check.same("of the output that stays", 12, x.position(2));
        x.fault(2, 1, 101);
        x.frame();
        Check.same("it lets go too", true, x.hasLetGo(2));
        reset(x, 1);
    }
}
