/** The edges of 'Sensors'. */
final class SensorEdgeTest {
    public static void main(String[] args) {
        atFirst();
        readingsAtTheEdges();
        theMiddle();
        asFarAsTheLimit();
        theLeastAndTheMostLimit();
        farNumbersDoNotGoRound();
        farAtThisFrameAndTheTwoAhead();
        farBelowAndAbove();
        oneAheadTookOne();
        aFarOneWasTaken();
        theLimitOfTheFrame();
        onlyAtAFrame();
        sensorsApart();
        whatCodeIsTold();
        Check.end();
    }

    private static Triplane with(int limit) {
        Triplane x = new Triplane();
        x.limit(0, limit);
        return x;
    }

    /** A frame with these readings. */
    private static int agree(Triplane x, int reading) {
        x.read(0, reading, reading, reading);
        x.frame();
        return x.agreed(0);
    }

    private static void atFirst() {
        Edge.term("Each sensor has three readings, numbers too, 0 at first, and a limit, 32767 at first");
        Triplane x = new Triplane();
        x.frame();
        for (int i = 0; i < 4; i++) {
            Check.same("agreed without a reading", 0, x.agreed(i));
            Check.same("limit", 32767, x.limit(i, 32767));
        }
    }

    private static void readingsAtTheEdges() {
        Edge.term("Each sensor has three readings, numbers too");
        Triplane x = new Triplane();
        Check.same("the greatest", 32767, x.read(0, 32767, 32767, 32767));
        Check.same("the least", -32768, x.read(0, -32768, -32768, -32768));
        Check.same("between", -1, x.read(0, 32767, -1, -32768));
        Check.same("agree", 32767, agree(x, 32767));
    }

    private static void theMiddle() {
        Edge.term("becomes the middle of the three at a frame");
        int[] numbers = {-32768, -1, 0, 1, 32767};
        for (int i = 0; i < 125; i++) {
            int[] three = {numbers[i / 25], numbers[i / 5 % 5], numbers[i % 5]};
            Triplane x = new Triplane();
            int got = x.read(1, three[0], three[1], three[2]);
            java.util.Arrays.sort(three);
            Check.same("the middle of " + java.util.Arrays.toString(three), three[1], got);
            x.frame();
            Check.same("agreed", three[1] == -32768 ? 0 : three[1], x.agreed(1));
        }
    }

    private static void asFarAsTheLimit() {
        Edge.term("if it is no farther from what was agreed than the limit");
        for (int start : new int[] {0, 100, -100}) {
            for (int limit : new int[] {0, 1, 10, 1000}) {
                for (int sign = -1; sign <= 1; sign += 2) {
                    Triplane x = new Triplane();
                    Check.same("the start", start, agree(x, start));
                    x.limit(0, limit);
                    Check.same("one farther", start, agree(x, start + sign * (limit + 1)));
                    Check.same("as far as the limit", start + sign * limit, agree(x, start + sign * limit));
                }
            }
        }
    }

    private static void theLeastAndTheMostLimit() {
        Edge.promise(23, "the limit, 0 to 32767");
        Triplane x = with(0);
        Check.same("a limit of 0, 0 away", 0, agree(x, 0));
        Check.same("a limit of 0, 1 away", 0, agree(x, 1));
        Check.same("a limit of 0, 1 away below", 0, agree(x, -1));
        Triplane y = with(32767);
        Check.same("32768 away", 0, agree(y, -32768));
        Check.same("32767 away", -32767, agree(y, -32767));
        Check.same("32767 away", 0, agree(y, 0));
        Check.same("32767 away above", 32767, agree(y, 32767));
        Triplane z = with(32766);
        Check.same("32767 away with 32766", 0, agree(z, 32767));
        Check.same("32766 away with 32766", -32766, agree(z, -32766));
    }

    private static void farNumbersDoNotGoRound() {
        Edge.term("no farther from what was agreed than the limit");
        Triplane x = new Triplane();
        agree(x, 32767);
        Check.same("65535 below", 32767, agree(x, -32768));
        Check.same("32768 below", 32767, agree(x, -1));
        Check.same("32767 below", 0, agree(x, 0));
        Triplane y = new Triplane();
        agree(y, -32767);
        Check.same("65534 above", -32767, agree(y, 32767));
        Check.same("32768 above", -32767, agree(y, 1));
        Check.same("32767 above", 0, agree(y, 0));
    }

    private static void farAtThisFrameAndTheTwoAhead() {
        Edge.term("or if it was farther at this frame and the two ahead");
        Triplane x = with(5);
        Check.same("the first far one", 0, agree(x, 6));
        Check.same("the second one", 0, agree(x, 6));
        Check.same("the third one", 6, agree(x, 6));
        Triplane y = with(5);
        Check.same("the first one", 0, agree(y, 900));
        Check.same("another one", 0, agree(y, -900));
        Check.same("the third one's own number", 70, agree(y, 70));
        // A frame without a new reading counts as well.
        Triplane z = with(5);
        z.read(0, 9, 9, 9);
        z.frame();
        z.frame();
        Check.same("read once, two frames", 0, z.agreed(0));
        z.frame();
        Check.same("read once, three frames", 9, z.agreed(0));
    }

    private static void farBelowAndAbove() {
        Edge.term("or if it was farther at this frame and the two ahead");
        Triplane x = with(32767);
        agree(x, 32767);
        Check.same("the first far one", 32767, agree(x, -32768));
        Check.same("the second one", 32767, agree(x, -1));
        Check.same("the third one, as far as can be", -32768, agree(x, -32768));
    }

    private static void oneAheadTookOne() {
        Edge.term("none of which took one; otherwise it stays");
        for (int near = 0; near < 3; near++) {
            Triplane x = with(5);
            for (int i = 0; i < 3; i++) {
                agree(x, i == near ? 0 : 40);
            }
            Check.same("with a near one in frame " + near, 0, x.agreed(0));
            for (int i = 0; i < near; i++) {
                Check.same("not three in a row", 0, agree(x, 40));
            }
            Check.same("three in a row", 40, agree(x, 40));
        }
    }

    private static void aFarOneWasTaken() {
        Edge.term("none of which took one; otherwise it stays");
        Triplane x = with(5);
        int[] due = {0, 0, 20, 20, 20, 80, 80, 80, 200};
        int[] readings = {20, 20, 20, 40, 60, 80, 100, 100, 200};
        for (int i = 0; i < due.length; i++) {
            Check.same("the frame " + (i + 1), due[i], agree(x, readings[i]));
        }
    }

    private static void theLimitOfTheFrame() {
        Edge.term("if it is no farther from what was agreed than the limit");
        Triplane x = with(5);
        agree(x, 20);
        agree(x, 20);
        x.limit(0, 20);
        Check.same("a limit that is wider", 20, agree(x, 20));
        x.limit(0, 5);
        Check.same("far once", 20, agree(x, 0));
        x.limit(0, 20);
        Check.same("near by the wider one", 10, agree(x, 10));
        x.limit(0, 5);
        Check.same("far", 10, agree(x, 0));
        Check.same("far", 10, agree(x, 0));
        x.limit(0, 9);
        Check.same("far by another limit", 0, agree(x, 0));
    }

    private static void onlyAtAFrame() {
        Edge.term("becomes the middle of the three at a frame");
        Triplane x = new Triplane();
        x.read(0, 7, 7, 7);
        Check.same("ahead of a frame", 0, x.agreed(0));
        x.read(0, 8, 8, 8);
        x.frame();
        Check.same("the latest one", 8, x.agreed(0));
        x.shut(0);
        x.shut(1);
        x.shut(2);
        Check.same("with none on", 9, agree(x, 9));
    }

    private static void whatCodeIsTold() {
        Edge.term("'i' the register becomes what is agreed of the sensor n");
        for (int sensor = 0; sensor < 4; sensor++) {
            Triplane x = Check.running("i0 " + sensor, "o0 0");
            x.read(sensor, 4, 4, 4);
            x.frame();
            Check.same("a near one", 4, x.output(0));
            x.limit(sensor, 5);
            x.read(sensor, 10, 10, 10);
            x.frame();
            Check.same("a far one", 4, x.output(0));
            x.frame();
            Check.same("far again", 4, x.output(0));
            x.frame();
            Check.same("far the third time", 10, x.output(0));
            Check.same("of the plain one", 10, x.plain(0));
        }
    }

    private static void sensorsApart() {
        Edge.term("Each sensor has three readings");
        for (int sensor = 0; sensor < 4; sensor++) {
            Triplane x = new Triplane();
            x.limit(sensor, 5);
            for (int i = 0; i < 4; i++) {
                x.read(i, 6, 6, 6);
            }
            x.frame();
            for (int i = 0; i < 4; i++) {
                Check.same("the sensor " + i, i == sensor ? 0 : 6, x.agreed(i));
            }
            Check.frames(x, 2);
            Check.same("the sensor with a limit", 6, x.agreed(sensor));
        }
    }
}
