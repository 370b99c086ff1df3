import java.util.NoSuchElementException;

/** The edges of 'The log', and of what isTrue asks of it. */
final class LogEdgeTest {
    public static void main(String[] args) {
        empty();
        aLineForEach();
        theLatestThirty();
        linesOfOneBeatAndFrame();
        trueWithAFullLog();
        Check.end();
    }

    private static void empty() {
        Edge.promise(35, "if there is no such line");
        for (char what : new char[] {'t', 'c', 'r'}) {
            Edge.refuses("an empty log", NoSuchElementException.class, Triplane::new, x -> x.line(0, what));
            Edge.refuses("behind a frame", NoSuchElementException.class, () -> {
                Triplane x = new Triplane();
                x.frame();
                return x;
            }, x -> x.line(0, what));
        }
    }

    private static void aLineForEach() {
        Edge.term("Each computer that is shut off or brought back is a line with the time, the computer");
        for (int i = 0; i < 3; i++) {
            Triplane x = new Triplane();
            Check.frames(x, 2 * i);
            x.shut(i);
            Check.same("shut off", 2 * i + ":" + i + "h", Check.lines(x));
            x.test(i);
            x.stick((i + 1) % 3, 0, 0, true);
            x.frame();
            Check.same("no line for others", 2 * i + ":" + i + "h", Check.lines(x));
            x.back(i);
            Check.same("brought back", 2 * i + 1 + ":" + i + "b " + 2 * i + ":" + i + "h", Check.lines(x));
        }
    }

    /** Shuts a computer off or brings it back, by turns, so that the line i is of the time i. */
    private static Triplane with(int lines) {
        Triplane x = new Triplane();
        for (int i = 0; i < lines; i++) {
            if (i % 2 == 0) {
                x.shut(i / 2 % 3);
            } else {
                x.test(i / 2 % 3);
                x.back(i / 2 % 3);
            }
            x.frame();
        }
        return x;
    }

    private static void theLatestThirty() {
        Edge.term("the latest 30 are kept");
        for (int lines : new int[] {1, 2, 28, 29, 30, 31, 32, 59, 60, 61, 62, 90, 91, 120}) {
            int kept = Math.min(lines, 30);
            Triplane x = with(lines);
            for (int i = 0; i < kept; i++) {
                int due = lines - 1 - i;
                Check.same("time of the line " + i + " of " + lines, due, x.line(i, 't'));
                Check.same("its computer", due / 2 % 3, x.line(i, 'c'));
                Check.same("its letter", due % 2 == 0 ? 'h' : 'b', x.line(i, 'r'));
            }
            Check.same("true", true, x.isTrue());
            for (int wrong : new int[] {-1, kept, kept + 1, Integer.MIN_VALUE, Integer.MAX_VALUE}) {
                Edge.refuses("line " + wrong + " of " + lines, NoSuchElementException.class,
                        () -> with(Math.min(lines, 60)), y -> y.line(wrong, 't'));
            }
        }
    }

    private static void linesOfOneBeatAndFrame() {
        Edge.term("and 'v', 'm', 'h' or 'b'");
        // Three strikes shut 0 off, two flips that are read 1, two that are scrubbed 2, all in the frame 1.
        Triplane x = Check.running("l0 8", "o0 0", "o0 0", "o0 0", "r1 3");
        x.stick(0, 0, 0, true);
        x.flip(1, 0, 3, 0);
        x.flip(1, 0, 3, 1);
        x.flip(2, 0, 1, 0);
        x.flip(2, 0, 1, 1);
        Check.same("none is on", 0, x.frame());
        Check.same("lines", "1:2m 1:1m 1:0v", Check.lines(x));
    }

    private static void trueWithAFullLog() {
        Edge.promise(39, "Checks that, if no bit was ever flipped or stuck");
        for (int lines = 0; lines <= 40; lines++) {
            // The line of 2 is the first one, and gone with the line 31.
            Triplane x = new Triplane();
            x.shut(2);
            for (int i = 0; i < lines; i++) {
                if (i % 2 == 0) {
                    x.shut(1);
                } else {
                    x.test(1);
                    x.back(1);
                }
            }
            Check.same("behind " + lines + " more", true, x.isTrue());
        }
    }
}
