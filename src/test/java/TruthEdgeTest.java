import java.lang.reflect.Array;
import java.lang.reflect.Field;

/**
 * That isTrue tells what does not hold. No call brings such a state about, so the fields are set from outside, each at
 * the last value that is allowed and at the first one that is not.
 */
final class TruthEdgeTest {
    public static void main(String[] args) throws ReflectiveOperationException {
        outputsOfThePlainOne();
        notAskedOnceFlippedOrStuck();
        notAskedOnceNoneWasOn();
        strikesBelowThree();
        strikesOfOnesThatAreOff();
        aLineForEachThatIsOff();
        aLineOfBeingBroughtBack();
        notAskedOnceTheLogWasFull();
        Check.end();
    }

    private static Field field(Object of, String name) throws ReflectiveOperationException {
        Field field = of.getClass().getDeclaredField(name);
        field.setAccessible(true);
        return field;
    }

    private static Object computer(Triplane x, int index) throws ReflectiveOperationException {
        return Array.get(field(x, "computers").get(x), index);
    }

    private static void setOutput(Triplane x, int index, int number) throws ReflectiveOperationException {
        Array.set(field(x, "outputs").get(x), index, number);
    }

    private static void setStrikes(Triplane x, int index, int strikes) throws ReflectiveOperationException {
        field(computer(x, index), "strikeCount").set(computer(x, index), strikes);
    }

    private static void setOff(Triplane x, int index) throws ReflectiveOperationException {
        field(computer(x, index), "isRunning").set(computer(x, index), false);
    }

    private static void outputsOfThePlainOne() throws ReflectiveOperationException {
        Edge.promise(39, "all outputs are those of the plain computer");
        for (int i = 0; i < 4; i++) {
            Triplane x = Check.running("l0 5", "o0 " + i);
            x.frame();
            x.shut(i % 3);
            setOutput(x, i, 6);
            Check.same("another output", false, x.isTrue());
            setOutput(x, i, 5);
            Check.same("the same one", true, x.isTrue());
        }
    }

    private static void notAskedOnceFlippedOrStuck() throws ReflectiveOperationException {
        Edge.promise(39, "if no bit was ever flipped or stuck");
        Triplane x = new Triplane();
        x.fix(0);
        setOutput(x, 3, 1);
        Check.same("neither", false, x.isTrue());
        x.flip(2, 2, 5, 0);
        Check.same("flipped", true, x.isTrue());
        x.flip(2, 2, 5, 0);
        Check.same("flipped back", true, x.isTrue());
        Triplane y = new Triplane();
        setOutput(y, 3, 1);
        y.stick(2, 3, 15, false);
        Check.same("stuck", true, y.isTrue());
        y.fix(2);
        Check.same("fixed", true, y.isTrue());
        Triplane z = new Triplane();
        setOutput(z, 3, 1);
        Edge.isRefused(z, v -> v.flip(0, 0, 0, 16));
        Edge.isRefused(z, v -> v.stick(0, 0, 16, true));
        Check.same("refused ones do not count", false, z.isTrue());
    }

    private static void notAskedOnceNoneWasOn() throws ReflectiveOperationException {
        Edge.promise(39, "and some computer was on in all frames");
        for (int on = 0; on < 4; on++) {
            Triplane x = new Triplane();
            for (int i = on; i < 3; i++) {
                x.shut(i);
            }
            setOutput(x, 0, 1);
            Check.same("no frame yet", false, x.isTrue());
            x.frame();
            Check.same("a frame with " + on + " on", on == 0, x.isTrue());
        }
    }

    private static void strikesBelowThree() throws ReflectiveOperationException {
        Edge.promise(39, "strikes of computers that are on are below 3");
        for (int i = 0; i < 3; i++) {
            Triplane x = new Triplane();
            for (int strikes = 0; strikes <= 4; strikes++) {
                setStrikes(x, i, strikes);
                Check.same("strikes of " + strikes, strikes < 3, x.isTrue());
            }
        }
    }

    private static void strikesOfOnesThatAreOff() throws ReflectiveOperationException {
        Edge.promise(39, "strikes of computers that are on are below 3");
        for (int i = 0; i < 3; i++) {
            Triplane x = new Triplane();
            x.shut(i);
            setStrikes(x, i, 3);
            Check.same("off with three", true, x.isTrue());
        }
    }

    private static void aLineForEachThatIsOff() throws ReflectiveOperationException {
        Edge.promise(39, "each computer that is off has a line for that");
        for (int i = 0; i < 3; i++) {
            Triplane x = new Triplane();
            setOff(x, i);
            Check.same("an empty log", false, x.isTrue());
            Triplane y = new Triplane();
            y.shut((i + 1) % 3);
            Check.same("each has a line", true, y.isTrue());
            setOff(y, i);
            Check.same("another one's line", false, y.isTrue());
            Triplane z = new Triplane();
            z.shut(i);
            z.shut((i + 1) % 3);
            Check.same("the line ahead of the latest one", true, z.isTrue());
        }
    }

    private static void aLineOfBeingBroughtBack() throws ReflectiveOperationException {
        Edge.promise(39, "each computer that is off has a line for that");
        Triplane x = new Triplane();
        x.shut(1);
        x.test(1);
        x.back(1);
        setOff(x, 1);
        Check.same("off behind it without a line", false, x.isTrue());
    }

    private static void notAskedOnceTheLogWasFull() throws ReflectiveOperationException {
        Edge.promise(39, "if the log was never full");
        for (int lines : new int[] {28, 29, 31, 32, 60}) {
            Triplane x = new Triplane();
            for (int i = 0; i < lines; i++) {
                if (i % 2 == 0) {
                    x.shut(0);
                } else {
                    x.test(0);
                    x.back(0);
                }
            }
            setOff(x, 2);
            Check.same("no line for it, with " + lines, lines > 30, x.isTrue());
        }
    }
}
