/** Promises 30 to 32: channels, positions, letting go. */
final class ActuatorTest {
    public static void main(String[] args) {
        middles();
        letsGo();
        staysTillAReset();
        Check.end();
    }

    private static void middles() {
        Triplane x = Check.running("l0 50", "o0 1");
        Check.same("fault", 0, x.fault(1, 0, -60));
        Check.same("fault", -60, x.fault(1, 0, -30));
        Check.same("fault of another channel", 0, x.fault(1, 2, 20));
        Check.same("fault of another output", 0, x.fault(2, 2, 9));
        Check.same("only behind a frame", 0, x.position(1));
        x.frame();
        Check.same("the middle of 20, 50 and 70", 50, x.position(1));
        x.fault(1, 1, 20);
        x.frame();
        Check.same("the middle of 20, 70 and 70", 70, x.position(1));
        Check.same("the middle of 0, 0 and 9", 0, x.position(2));
        for (int i = 0; i < 3; i++) {
            x.shut(i);
        }
        x.fault(1, 1, 10);
        x.frame();
        Check.same("with all off", 60, x.position(1));
    }

    private static void letsGo() {
        Triplane x = Check.running("l0 50", "o0 0", "o0 3");
        x.fault(0, 0, -40);
        x.fault(0, 1, 60);
        x.fault(3, 0, -40);
        x.fault(3, 2, 61);
        Check.same("only behind a frame", false, x.hasLetGo(3));
        x.frame();
        Check.same("100 above holds", false, x.hasLetGo(0));
        Check.same("its position", 50, x.position(0));
        Check.same("101 above lets go", true, x.hasLetGo(3));
        Check.same("its position", 0, x.position(3));
        int[][] orders = {{0, 50, 101}, {0, 101, 50}, {50, 0, 101}, {50, 101, 0}, {101, 0, 50}, {101, 50, 0}};
        for (int[] order : orders) {
            Triplane y = new Triplane();
            for (int i = 0; i < 3; i++) {
                y.fault(1, i, order[i]);
            }
            y.frame();
            Check.same("any two channels", true, y.hasLetGo(1));
        }
    }

    private static void staysTillAReset() {
        Triplane x = Check.running("l0 50", "o0 0");
        x.fault(0, 0, 101);
        x.fault(1, 0, -999);
        x.frame();
        x.fault(0, 0, 0);
        x.frame();
        Check.same("it stays", true, x.hasLetGo(0));
        Check.same("at 0", 0, x.position(0));
        x.arm('a');
        Check.same("reset", 2, x.give('a'));
        Check.same("reset at once", false, x.hasLetGo(0));
        Check.same("at 0 till the frame", 0, x.position(0));
        x.arm('a');
        Check.same("none left to reset", 0, x.give('a'));
        x.frame();
        Check.same("back again", 50, x.position(0));
        Check.same("holds", false, x.hasLetGo(0));
        Check.same("another one lets go anew", true, x.hasLetGo(1));
    }
}
