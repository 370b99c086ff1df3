/** The edges of 'Clocks'. */
final class ClockEdgeTest {
    public static void main(String[] args) {
        atFirst();
        leastAndMostDrift();
        offOrOn();
        onlyIfThreeAreOn();
        twoOnWithLies();
        theMiddleOfThree();
        leastAndMostLie();
        allAtOnce();
        liesAreForOne();
        notANumberThatGoesRound();
        Check.end();
    }

    private static void clocks(String what, Triplane x, int zero, int one, int two) {
        Check.same(what + ", 0", zero, x.clock(0));
        Check.same(what + ", 1", one, x.clock(1));
        Check.same(what + ", 2", two, x.clock(2));
    }

    private static Triplane drifting(int zero, int one, int two) {
        Triplane x = new Triplane();
        x.drift(0, zero);
        x.drift(1, one);
        x.drift(2, two);
        return x;
    }

    private static void atFirst() {
        Edge.term("Each computer has a clock, 0 at first, and a drift, 0 at first");
        Triplane x = new Triplane();
        clocks("at first", x, 0, 0, 0);
        Check.frames(x, 3);
        clocks("without drifts and lies", x, 0, 0, 0);
        Check.same("drift", 0, x.drift(0, 0) + x.drift(1, 0) + x.drift(2, 0));
    }

    private static void leastAndMostDrift() {
        Edge.promise(25, "the drift, -9 to 9");
        for (int drift = -9; drift <= 9; drift++) {
            Triplane x = drifting(drift, drift, drift);
            x.frame();
            clocks("a drift of " + drift, x, drift, drift, drift);
            x.frame();
            clocks("twice", x, 2 * drift, 2 * drift, 2 * drift);
        }
    }

    private static void offOrOn() {
        Edge.term("by which it is more in each frame, be it off or on");
        Triplane x = drifting(9, 2, -9);
        x.shut(0);
        x.frame();
        clocks("one off", x, 9, 2, -9);
        x.shut(1);
        x.frame();
        clocks("two off", x, 18, 4, -18);
        x.shut(2);
        x.frame();
        clocks("three off", x, 27, 6, -27);
    }

    private static void onlyIfThreeAreOn() {
        Edge.term("Then, if three are on, each takes the middle");
        for (int off = 0; off < 3; off++) {
            Triplane x = drifting(9, 2, -9);
            x.frame();
            clocks("three on", x, 2, 2, 2);
            x.shut(off);
            x.frame();
            clocks("two on", x, 11, 4, -7);
            x.test(off);
            x.back(off);
            int model = off == 0 ? 4 : 11;
            int[] now = {11, 4, -7};
            now[off] = model;
            clocks("as it came back", x, now[0], now[1], now[2]);
            x.frame();
            int[] next = {now[0] + 9, now[1] + 2, now[2] - 9};
            java.util.Arrays.sort(next);
            clocks("three on again", x, next[1], next[1], next[1]);
        }
    }

    private static void twoOnWithLies() {
        Edge.term("Then, if three are on");
        Triplane x = new Triplane();
        for (int i = 0; i < 3; i++) {
            x.lie(i, (i + 1) % 3, 999);
            x.lie(i, (i + 2) % 3, 999);
        }
        x.shut(1);
        Check.frames(x, 2);
        clocks("two on", x, 0, 0, 0);
    }

    private static void theMiddleOfThree() {
        Edge.term("the middle of its own clock and of those that the two others tell it");
        int[][] orders = {{-9, 1, 9}, {-9, 9, 1}, {1, -9, 9}, {1, 9, -9}, {9, -9, 1}, {9, 1, -9}};
        for (int[] order : orders) {
            Triplane x = drifting(order[0], order[1], order[2]);
            x.frame();
            clocks("the middle", x, 1, 1, 1);
        }
        Triplane y = drifting(5, 5, -5);
        y.frame();
        clocks("of two alike", y, 5, 5, 5);
    }

    private static void leastAndMostLie() {
        Edge.promise(26, "the lie, -999 to 999");
        for (int by : new int[] {-999, -998, -1, 0, 1, 998, 999}) {
            for (int told = 0; told < 3; told++) {
                Triplane x = new Triplane();
                x.lie((told + 1) % 3, told, by);
                x.lie((told + 2) % 3, told, by);
                x.frame();
                clocks("both lie by " + by, x, told == 0 ? by : 0, told == 1 ? by : 0, told == 2 ? by : 0);
            }
            Triplane y = new Triplane();
            y.lie(1, 0, by);
            y.lie(1, 2, -by);
            y.frame();
            clocks("one lies by " + by, y, 0, 0, 0);
        }
    }

    private static void allAtOnce() {
        Edge.term("tell it, all at once");
        // Told by both, 0 goes to 100, 1 to 200, 2 to 300; no clock that is new is told in that frame.
        Triplane x = new Triplane();
        for (int told = 0; told < 3; told++) {
            x.lie((told + 1) % 3, told, 100 * (told + 1));
            x.lie((told + 2) % 3, told, 100 * (told + 1));
        }
        x.frame();
        clocks("told of 0", x, 100, 200, 300);
        x.frame();
        // Of 100, 300 and 400; of 200, 300 and 500; of 300, 400 and 500.
        clocks("told of 100, 200 and 300", x, 300, 300, 400);
    }

    private static void liesAreForOne() {
        Edge.term("each tells another one its clock more by a lie for that one, 0 at first");
        for (int i = 0; i < 6; i++) {
            int liar = i / 2;
            int told = (liar + 1 + i % 2) % 3;
            Triplane x = drifting(0, 0, 0);
            // Of two that lie to one the lesser lie is the middle; the other way and to the third one there's none.
            int third = 3 - liar - told;
            x.lie(liar, told, 500);
            x.lie(third, told, 70);
            x.frame();
            clocks("lied to is " + told, x, told == 0 ? 70 : 0, told == 1 ? 70 : 0, told == 2 ? 70 : 0);
            Check.same("the lie", 500, x.lie(liar, told, 0));
            Check.same("the other way", 0, x.lie(told, liar, 0));
            Check.same("for the third one", 0, x.lie(liar, third, 0));
        }
    }

    /** The document calls outputs, words and readings numbers, and clocks clocks. */
    private static void notANumberThatGoesRound() {
        Edge.term("each tells another one its clock more by a lie for that one");
        for (int by = -999; by <= 999; by += 1998) {
            Triplane x = new Triplane();
            for (int i = 0; i < 3; i++) {
                x.lie(i, (i + 1) % 3, by);
                x.lie(i, (i + 2) % 3, by);
            }
            Check.frames(x, 32);
            clocks("behind 32 frames", x, 32 * by, 32 * by, 32 * by);
            x.frame();
            clocks("behind 33 frames", x, 33 * by, 33 * by, 33 * by);
        }
    }
}
