/** The edges of 'Commands'. */
final class CommandEdgeTest {
    private static final char[] COMMANDS = {'m', 'a'};

    public static void main(String[] args) {
        theOtherModeOfTwo();
        fromTheNextFrameOn();
        allThatLetGo();
        armedFirst();
        threeFramesAndFour();
        anotherOneTakesItsPlace();
        theSameOneAnew();
        armedNoMore();
        tooLateStaysSo();
        Check.end();
    }

    private static void refusesGive(String what, char command, Edge.State state) {
        Edge.refuses(what + ", " + command, UnsupportedOperationException.class, state, x -> x.give(command));
    }

    private static char other(char command) {
        return command == 'm' ? 'a' : 'm';
    }

    private static void theOtherModeOfTwo() {
        Edge.term("by which the mode, 0 at first, becomes the other one of two at once");
        Triplane x = new Triplane();
        Check.same("at first", 0, x.mode());
        for (int i = 1; i <= 5; i++) {
            x.arm('m');
            Check.same("armed only", (i + 1) % 2, x.mode());
            Check.same("give", i % 2, x.give('m'));
            Check.same("at once", i % 2, x.mode());
        }
        x.arm('a');
        x.give('a');
        Check.same("the other command", 1, x.mode());
    }

    private static void fromTheNextFrameOn() {
        Edge.term("so that it runs from the next frame on");
        Triplane x = Check.running("l0 1", "o0 0", "r0 0", "l1 1", "a0 1", "m0 0");
        x.slot(1, 0, 1);
        Check.write(x, 1, "l0 2", "o0 0");
        x.frame();
        x.arm('m');
        x.give('m');
        Check.same("nothing ran yet", 1, x.output(0));
        x.frame();
        Check.same("the next frame", 2, x.output(0));
        Check.same("the old mode ran once", 1, x.word(0, 0, 0));
        x.arm('m');
        x.give('m');
        x.frame();
        Check.same("the first mode again", 1, x.output(0));
        Check.same("ran twice", 2, x.word(0, 0, 0));
    }

    private static void allThatLetGo() {
        Edge.term("or 'a', by which all actuators that let go are reset");
        for (int set = 0; set < 16; set++) {
            Triplane x = new Triplane();
            for (int i = 0; i < 4; i++) {
                x.fault(i, 1, (set >> i & 1) == 1 ? 101 : 100);
            }
            x.frame();
            x.arm('a');
            Check.same("reset of the set " + set, Integer.bitCount(set), x.give('a'));
            for (int i = 0; i < 4; i++) {
                Check.same("the actuator " + i, false, x.hasLetGo(i));
            }
            x.arm('a');
            Check.same("none is left", 0, x.give('a'));
        }
    }

    private static void armedFirst() {
        Edge.term("It must be armed first");
        for (char command : COMMANDS) {
            refusesGive("never armed", command, Triplane::new);
            refusesGive("the other one armed", command, () -> armed(other(command), 0));
            Edge.accepts("armed", () -> armed(command, 0), x -> x.give(command));
        }
    }

    private static Triplane armed(char command, int frames) {
        Triplane x = new Triplane();
        x.arm(command);
        Check.frames(x, frames);
        return x;
    }

    private static void threeFramesAndFour() {
        Edge.term("be given while no more than 3 frames went by since");
        for (char command : COMMANDS) {
            for (int frames = 0; frames <= 3; frames++) {
                int count = frames;
                int due = command == 'm' ? 1 : 0;
                Edge.answers("behind " + frames, due, () -> armed(command, count), x -> x.give(command));
            }
            refusesGive("behind 4", command, () -> armed(command, 4));
            refusesGive("behind 5", command, () -> armed(command, 5));
            Edge.accepts("behind 3 of later ones", () -> {
                Triplane x = armed(command, 7);
                x.arm(command);
                Check.frames(x, 3);
                return x;
            }, x -> x.give(command));
            refusesGive("behind 4 of later ones", command, () -> {
                Triplane x = armed(command, 7);
                x.arm(command);
                Check.frames(x, 4);
                return x;
            });
        }
    }

    private static void anotherOneTakesItsPlace() {
        Edge.term("another one that is armed takes its place");
        for (char command : COMMANDS) {
            refusesGive("another one is armed", command, () -> {
                Triplane x = armed(command, 0);
                x.arm(other(command));
                return x;
            });
            refusesGive("another one was given", command, () -> {
                Triplane x = armed(command, 0);
                x.arm(other(command));
                x.give(other(command));
                return x;
            });
            refusesGive("another one is too late", command, () -> {
                Triplane x = armed(command, 0);
                x.arm(other(command));
                Check.frames(x, 4);
                return x;
            });
            Triplane y = armed(command, 2);
            y.arm(other(command));
            Check.frames(y, 3);
            Check.same("by its own time", false, Edge.isRefused(y, x -> x.give(other(command))));
        }
    }

    private static void theSameOneAnew() {
        Edge.term("be given while no more than 3 frames went by since");
        for (char command : COMMANDS) {
            Triplane x = armed(command, 3);
            Check.same("arm anew", 6, x.arm(command));
            Check.frames(x, 3);
            Check.same("3 behind the later one", false, Edge.isRefused(x, y -> y.give(command)));
            Check.same("once", true, Edge.isRefused(x, y -> y.give(command)));
            Triplane z = armed(command, 0);
            z.arm(command);
            z.give(command);
            Check.same("armed twice, given once", true, Edge.isRefused(z, y -> y.give(command)));
        }
    }

    private static void armedNoMore() {
        Edge.term("as it is given it is armed no more");
        for (char command : COMMANDS) {
            refusesGive("given", command, () -> {
                Triplane x = armed(command, 0);
                x.give(command);
                return x;
            });
            refusesGive("the other one of one that was given", other(command), () -> {
                Triplane x = armed(command, 0);
                x.give(command);
                return x;
            });
            Triplane y = armed(command, 0);
            Edge.isRefused(y, x -> x.give(other(command)));
            Edge.isRefused(y, x -> x.give('x'));
            Check.same("a refused one leaves it armed", false, Edge.isRefused(y, x -> x.give(command)));
        }
    }

    private static void tooLateStaysSo() {
        Edge.term("be given while no more than 3 frames went by since");
        for (char command : COMMANDS) {
            Triplane x = armed(command, 4);
            for (int i = 0; i < 3; i++) {
                Check.same("too late", true, Edge.isRefused(x, y -> y.give(command)));
                x.frame();
            }
            Check.same("mode", 0, x.mode());
            x.arm(command);
            Check.same("armed anew", false, Edge.isRefused(x, y -> y.give(command)));
        }
    }
}
