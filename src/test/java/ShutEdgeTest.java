/** The edges of 'Shut off and back'. */
final class ShutEdgeTest {
    public static void main(String[] args) {
        offOnesDoNothing();
        onlyOffOnesAreTested();
        noneWithABitThatSticks();
        onlyTestedOnesComeBack();
        onlyIfAnotherOneIsOn();
        theLowestOneThatIsOn();
        allWordsWithoutFlips();
        strikesAndClock();
        aStickTakesTheTestAway();
        aShutTakesTheTestAway();
        votesAndMemoryTakeItAwayToo();
        theHouseShutsOff();
        Check.end();
    }

    private static void offOnesDoNothing() {
        Edge.term("A computer that is off does nothing");
        for (int off = 0; off < 3; off++) {
            Triplane x = Check.running("l0 7", "m0 0", "r1 3", "o0 0");
            x.flip(off, 0, 3, 0);
            x.flip(off, 0, 1, 0);
            x.shut(off);
            x.frame();
            Check.same("it writes nothing", 0, x.word(off, 0, 0));
            Check.same("it mends nothing", 0, x.mended(off));
            Check.same("a word that it did not read", 1, x.word(off, 0, 3));
            Check.same("a word that was not scrubbed", 1, x.word(off, 0, 1));
            Check.same("it has no strike", 0, x.strikes(off));
            Check.same("the others go on", 7, x.output(0));
        }
    }

    private static void onlyOffOnesAreTested() {
        Edge.promise(18, "if it is on");
        for (int i = 0; i < 3; i++) {
            int computer = i;
            refusesTest("on", i, Triplane::new);
            refusesTest("on, the only one", i, () -> only(computer));
            refusesTest("back again", i, () -> returned(computer));
            Edge.answers("off", true, () -> without(computer), x -> x.test(computer));
        }
    }

    private static void refusesTest(String what, int computer, Edge.State state) {
        Edge.refuses(what, UnsupportedOperationException.class, state, x -> x.test(computer));
    }

    private static void refusesBack(String what, int computer, Edge.State state) {
        Edge.refuses(what, UnsupportedOperationException.class, state, x -> x.back(computer));
    }

    private static Triplane without(int computer) {
        Triplane x = new Triplane();
        x.shut(computer);
        return x;
    }

    private static Triplane only(int computer) {
        Triplane x = without((computer + 1) % 3);
        x.shut((computer + 2) % 3);
        return x;
    }

    private static Triplane returned(int computer) {
        Triplane x = without(computer);
        x.test(computer);
        x.back(computer);
        return x;
    }

    private static void noneWithABitThatSticks() {
        Edge.term("One that is off and has no bit that sticks can be tested");
        for (int i = 0; i < 3; i++) {
            Triplane x = without(i);
            x.stick(i, 3, 15, false);
            Check.same("a bit that sticks", false, x.test(i));
            Check.same("it is off still", false, x.isOn(i));
            x.fix(i);
            x.stick((i + 1) % 3, 3, 15, false);
            Check.same("a bit of another one", true, x.test(i));
            Check.same("tested again", true, x.test(i));
            Check.same("back", 3, x.back(i));
        }
    }

    private static Triplane failed(int computer) {
        Triplane x = without(computer);
        x.stick(computer, 0, 0, true);
        x.test(computer);
        return x;
    }

    private static void onlyTestedOnesComeBack() {
        Edge.term("a tested one can be brought back");
        for (int i = 0; i < 3; i++) {
            int computer = i;
            refusesBack("not tested", i, () -> without(computer));
            refusesBack("not passed", i, () -> failed(computer));
            refusesBack("on", i, Triplane::new);
            refusesBack("back already", i, () -> returned(computer));
            refusesBack("fixed, but not tested", i, () -> {
                Triplane x = failed(computer);
                x.fix(computer);
                return x;
            });
            refusesBack("another one was tested", i, () -> {
                Triplane x = only((computer + 2) % 3);
                x.test((computer + 1) % 3);
                return x;
            });
        }
    }

    private static Triplane allTested() {
        Triplane x = new Triplane();
        for (int i = 0; i < 3; i++) {
            x.shut(i);
            x.test(i);
        }
        return x;
    }

    private static void onlyIfAnotherOneIsOn() {
        Edge.term("if another one is on");
        for (int i = 0; i < 3; i++) {
            refusesBack("none is on", i, ShutEdgeTest::allTested);
            Triplane y = only((i + 1) % 3);
            y.test(i);
            Check.same("one is on", 2, y.back(i));
        }
    }

    /** All words of a computer are then its number and 5, its clock 10 times its number and 20. */
    private static Triplane unlike() {
        Triplane x = Check.running("l0 4", "m0 0", "m0 1", "m0 2", "m0 3", "m0 4", "m0 5");
        x.stick(0, 0, 0, true);
        x.stick(1, 0, 1, true);
        x.stick(2, 0, 3, true);
        x.drift(0, 2);
        x.drift(1, 3);
        x.drift(2, 4);
        x.shut(2);
        x.frame();
        return x;
    }

    private static void theLowestOneThatIsOn() {
        Edge.term("all words of all partitions become those of the lowest one that is on");
        Triplane x = unlike();
        x.fix(2);
        x.test(2);
        x.back(2);
        Check.same("of 0, of 0 and 1", 5, x.word(2, 0, 0));
        Check.same("its clock", 2, x.clock(2));
        x.shut(0);
        x.shut(2);
        x.test(2);
        x.back(2);
        Check.same("of 1, as 0 is off", 6, x.word(2, 0, 5));
        Check.same("its clock", 3, x.clock(2));
        x.fix(0);
        x.test(0);
        x.back(0);
        Check.same("of 1, of 1 and 2", 6, x.word(0, 0, 0));
        Check.same("its clock", 3, x.clock(0));
        x.shut(0);
        x.shut(1);
        x.clear(0);
        Check.write(x, 0, "l0 9", "m0 0");
        x.frame();
        x.test(0);
        x.back(0);
        Check.same("of 2, the only one", 9, x.word(0, 0, 0));
        Check.same("its clock", 7, x.clock(0));
    }

    private static void allWordsWithoutFlips() {
        Edge.term("all words of all partitions become those of the lowest one that is on, as they are without flips");
        Triplane x = new Triplane();
        for (int i = 0; i < 3; i++) {
            Check.write(x, i, "l0 " + (i + 4), "m0 0", "m0 1", "m0 2", "m0 3", "m0 4", "m0 5");
            x.slot(0, i, i);
        }
        x.shut(2);
        x.frame();
        for (int i = 0; i < 18; i++) {
            x.flip(0, i / 6, i % 6, 15);
            x.flip(0, i / 6, i % 6, 14);
            x.flip(2, i / 6, i % 6, 13);
        }
        x.test(2);
        x.back(2);
        for (int i = 0; i < 18; i++) {
            Check.same("the word " + i, i / 6 + 4, x.word(2, i / 6, i % 6));
            Check.same("its flips", 1, x.flip(2, i / 6, i % 6, 0));
            Check.same("the flips of the other one", 3, x.flip(0, i / 6, i % 6, 0));
        }
        Check.same("nothing was mended", 0, x.mended(0) + x.mended(2));
    }

    private static void strikesAndClock() {
        Edge.term("strikes are 0, its clock that of this one, and it is on");
        for (int strikes = 0; strikes <= 3; strikes++) {
            Triplane x = Check.running("l0 8", "o0 0");
            x.stick(2, 0, 0, true);
            x.drift(0, 9);
            x.drift(1, 9);
            x.drift(2, -9);
            Check.frames(x, strikes);
            if (strikes < 3) {
                x.shut(2);
            }
            Check.same("strikes while it is off", strikes, x.strikes(2));
            x.frame();
            x.fix(2);
            x.test(2);
            Check.same("strikes of a tested one", strikes, x.strikes(2));
            Check.same("back", 3, x.back(2));
            Check.same("strikes", 0, x.strikes(2));
            Check.same("clock", 9 * strikes + 9, x.clock(2));
            Check.same("on", true, x.isOn(2));
            Check.same("a frame", 3, x.frame());
            Check.same("no strike more", 0, x.strikes(2));
        }
    }

    private static Triplane tested(int computer) {
        Triplane x = without(computer);
        x.test(computer);
        return x;
    }

    private static void aStickTakesTheTestAway() {
        Edge.term("To stick a bit of it, or to shut it off, takes the test away");
        for (int i = 0; i < 3; i++) {
            int computer = i;
            refusesBack("a bit that sticks", i, () -> {
                Triplane x = tested(computer);
                x.stick(computer, 0, 0, true);
                return x;
            });
            refusesBack("one that was fixed", i, () -> {
                Triplane x = tested(computer);
                x.stick(computer, 0, 0, true);
                x.fix(computer);
                return x;
            });
            Triplane y = tested(i);
            y.stick((i + 1) % 3, 0, 0, true);
            y.fix(i);
            y.flip(i, 0, 0, 0);
            y.frame();
            Check.same("nothing else takes it away", 3, y.back(i));
        }
    }

    private static void aShutTakesTheTestAway() {
        Edge.term("To stick a bit of it, or to shut it off, takes the test away");
        for (int i = 0; i < 3; i++) {
            int computer = i;
            refusesBack("shut off anew", i, () -> {
                Triplane x = returned(computer);
                x.shut(computer);
                return x;
            });
            Triplane y = tested(i);
            y.shut((i + 1) % 3);
            Check.same("another one was shut off", 2, y.back(i));
        }
    }

    private static void votesAndMemoryTakeItAwayToo() {
        Edge.term("or to shut it off, takes the test away");
        refusesBack("shut off for 'm' by the scrubber", 1, () -> {
            Triplane x = returned(1);
            x.flip(1, 0, 1, 0);
            x.flip(1, 0, 1, 1);
            x.frame();
            return x;
        });
        refusesBack("shut off for 'v'", 1, () -> {
            Triplane x = returned(1);
            Check.write(x, 0, "o0 0", "o0 0", "o0 0");
            x.slot(0, 0, 0);
            // A bit of its own would take the test away as well, so the others are the wrong ones.
            x.stick(0, 0, 3, true);
            x.stick(2, 0, 3, true);
            x.frame();
            return x;
        });
        refusesBack("shut off for 'm' by a read", 1, () -> {
            Triplane x = returned(1);
            Check.write(x, 0, "r0 4");
            x.slot(0, 0, 0);
            x.flip(1, 0, 4, 0);
            x.flip(1, 0, 4, 1);
            x.frame();
            return x;
        });
    }

    private static void theHouseShutsOff() {
        Edge.term("The house can shut a computer off, for 'h'");
        for (int i = 0; i < 3; i++) {
            Triplane x = new Triplane();
            Check.same("two are left", 2, x.shut(i));
            Check.same("one is left", 1, x.shut((i + 1) % 3));
            Check.same("none is left", 0, x.shut((i + 2) % 3));
            Check.same("lines", "0:" + (i + 2) % 3 + "h 0:" + (i + 1) % 3 + "h 0:" + i + "h", Check.lines(x));
        }
    }
}
