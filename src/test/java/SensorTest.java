/** Promises 22 to 24: sensors. */
final class SensorTest {
    public static void main(String[] args) {
        middles();
        limits();
        nearAndFar();
        farThreeTimes();
        agreesAheadOfSlots();
        Check.end();
    }

    private static void middles() {
        Triplane x = new Triplane();
        int[][] orders = {{1, 2, 3}, {1, 3, 2}, {2, 1, 3}, {2, 3, 1}, {3, 1, 2}, {3, 2, 1}};
        for (int[] order : orders) {
            Check.same("the middle", 2, x.read(0, order[0], order[1], order[2]));
        }
        Check.same("two alike", 5, x.read(0, 5, -9, 5));
        Check.same("two alike", -9, x.read(0, -9, -9, 5));
        Check.same("the edges", 0, x.read(0, -32768, 32767, 0));
        Check.same("only a frame agrees", 0, x.agreed(0));
        x.read(0, 4, 4, 4);
        x.read(3, 7, 8, 9);
        x.frame();
        Check.same("agreed", 4, x.agreed(0));
        Check.same("agreed", 8, x.agreed(3));
        Check.same("not read", 0, x.agreed(1));
    }

    private static void limits() {
        Triplane x = new Triplane();
        Check.same("limit", 32767, x.limit(2, 0));
        Check.same("limit", 0, x.limit(2, 32767));
        Check.same("limit", 32767, x.limit(2, 9));
        Check.same("another sensor", 32767, x.limit(1, 1));
    }

    private static void nearAndFar() {
        Triplane x = new Triplane();
        x.limit(0, 10);
        x.read(0, 10, 10, 10);
        x.frame();
        Check.same("as far as the limit", 10, x.agreed(0));
        x.read(0, -1, -1, -1);
        x.frame();
        Check.same("farther below", 10, x.agreed(0));
        x.read(0, 0, 0, 0);
        x.frame();
        Check.same("as far below", 0, x.agreed(0));
        x.read(1, -32768, -32768, -32768);
        x.frame();
        Check.same("32768 is farther than the limit at first", 0, x.agreed(1));
        x.limit(2, 0);
        x.read(2, 1, 1, 1);
        x.frame();
        Check.same("a limit of 0", 0, x.agreed(2));
        x.read(3, 32767, 32767, 32767);
        x.frame();
        x.read(3, -32768, -32768, -32768);
        x.frame();
        Check.same("distances do not go round", 32767, x.agreed(3));
    }

    private static void farThreeTimes() {
        Triplane x = new Triplane();
        x.limit(0, 5);
        x.read(0, 9, 9, 9);
        x.frame();
        x.read(0, -50, -50, -50);
        x.frame();
        Check.same("far twice", 0, x.agreed(0));
        x.read(0, 70, 70, 70);
        x.frame();
        Check.same("far three times, each another number", 70, x.agreed(0));
    }

    private static void agreesAheadOfSlots() {
        Triplane x = Check.running("i0 2", "o0 0");
        x.read(2, 5, 5, 5);
        x.frame();
        Check.same("the frame's own", 5, x.output(0));
        for (int i = 0; i < 3; i++) {
            x.shut(i);
        }
        x.read(2, 6, 6, 6);
        x.frame();
        Check.same("with all off", 6, x.agreed(2));
    }
}
