import java.util.NoSuchElementException;

/** The edges of 'Copies'. */
final class CopyEdgeTest {
    public static void main(String[] args) {
        atFirst();
        cutOrNot();
        allRowsOfSaves();
        theCopyIsOfItsTime();
        theLowestOneThatIsOn();
        noneOn();
        withoutFlips();
        allSixWords();
        thoseThatAreOn();
        loadedOnesForgetFlips();
        partitionsApart();
        leastAndMost();
        Check.end();
    }

    /** Lets the word 0 of the partition 0 be this number. */
    private static void put(Triplane x, int number) {
        x.clear(0);
        Check.write(x, 0, "l0 " + number, "m0 0");
        x.slot(0, 0, 0);
        x.frame();
    }

    private static void atFirst() {
        Edge.term("A partition has two copies of its words, at first none");
        for (int i = 0; i < 3; i++) {
            int partition = i;
            Edge.refuses("no copy", NoSuchElementException.class, Triplane::new, x -> x.load(partition));
            Edge.answers("a bad one of two", 0, Triplane::new, x -> x.save(partition, true));
            Edge.answers("a good one of two", 1, Triplane::new, x -> x.save(partition, false));
        }
    }

    private static void cutOrNot() {
        Edge.promise(28, "whether the power is lost meanwhile");
        Triplane x = new Triplane();
        put(x, 4);
        Check.same("not lost", 1, x.save(0, false));
        put(x, 5);
        Check.same("lost", 1, x.save(0, true));
        Check.same("the one ahead outlives it", 4, x.load(0));
        Check.same("the word behind a load", 4, x.word(1, 0, 0));
    }

    /** All rows of seven saves, cut or not, beside what the sentence says of the two copies. */
    private static void allRowsOfSaves() {
        Edge.term("To save it makes the one that is not the newest good one, the first one at first");
        for (int row = 0; row < 128; row++) {
            Triplane x = new Triplane();
            int[] copies = {0, 0};
            int newest = 1;
            for (int i = 0; i < 7; i++) {
                boolean isCut = (row >> i & 1) == 1;
                put(x, i + 1);
                int made = 1 - newest;
                copies[made] = isCut ? 0 : i + 1;
                newest = isCut ? newest : made;
                int good = (copies[0] == 0 ? 0 : 1) + (copies[1] == 0 ? 0 : 1);
                Check.same("good ones behind the save " + i + " of " + row, good, x.save(0, isCut));
                if (copies[newest] == 0) {
                    Check.same("none is good", true, Edge.isRefused(x, y -> y.load(0)));
                } else {
                    Check.same("the newest good one", copies[newest], x.load(0));
                }
            }
        }
    }

    private static void theCopyIsOfItsTime() {
        Edge.term("and that is the newest good one then");
        Triplane x = new Triplane();
        put(x, 4);
        x.save(0, false);
        put(x, 5);
        Check.same("not what was written behind", 4, x.load(0));
        put(x, 6);
        x.save(0, true);
        Check.same("nor as the power was lost", 4, x.load(0));
        Check.same("loading makes no copy", 2, x.save(0, false));
        Check.same("the same one", 4, x.load(0));
    }

    private static void theLowestOneThatIsOn() {
        Edge.term("those of the lowest computer that is on");
        Triplane x = new Triplane();
        x.stick(0, 0, 3, true);
        x.stick(1, 0, 4, true);
        put(x, 1);
        x.save(0, false);
        Check.same("0 of three", 9, x.load(0));
        put(x, 1);
        x.shut(0);
        x.save(0, false);
        Check.same("1 of two", 17, x.load(0));
        put(x, 1);
        x.shut(1);
        x.save(0, false);
        Check.same("2, the only one", 1, x.load(0));
    }

    private static void noneOn() {
        Edge.promise(28, "if no computer is on");
        for (int partition = 0; partition < 3; partition++) {
            int at = partition;
            Edge.refuses("good", UnsupportedOperationException.class, States::allOff, x -> x.save(at, false));
            Edge.refuses("cut", UnsupportedOperationException.class, States::allOff, x -> x.save(at, true));
            Edge.answers("one on", 1, CopyEdgeTest::oneOn, x -> x.save(at, false));
        }
    }

    private static Triplane oneOn() {
        Triplane x = new Triplane();
        x.shut(0);
        x.shut(1);
        return x;
    }

    private static void withoutFlips() {
        Edge.term("as they are without flips, and that is the newest good one");
        for (int count = 0; count <= 16; count++) {
            Triplane x = new Triplane();
            put(x, 21845);
            for (int bit = 0; bit < count; bit++) {
                x.flip(0, 0, 0, bit);
            }
            int seen = x.word(0, 0, 0);
            x.save(0, false);
            Check.same("the word keeps its flips", seen, x.word(0, 0, 0));
            Check.same("nothing was mended", 0, x.mended(0));
            Check.same("the computer is on", true, x.isOn(0));
            Check.same("the copy", 21845, x.load(0));
        }
    }

    private static void allSixWords() {
        Edge.term("A partition has two copies of its words");
        Triplane x = new Triplane();
        for (int i = 0; i < 6; i++) {
            x.clear(1);
            Check.write(x, 1, "l0 " + (40 + i), "m0 " + i);
            x.slot(0, 0, 1);
            x.frame();
        }
        for (int copy = 0; copy < 2; copy++) {
            Check.same("save", copy + 1, x.save(1, false));
            x.clear(1);
            Check.write(x, 1, "m0 0", "m0 1", "m0 2", "m0 3", "m0 4", "m0 5");
            x.frame();
            Check.same("load", 40, x.load(1));
            for (int i = 0; i < 18; i++) {
                Check.same("the word " + i, 40 + i % 6, x.word(i / 6, 1, i % 6));
            }
        }
    }

    private static void thoseThatAreOn() {
        Edge.term("To load it lets all computers that are on, and the plain one, have the words");
        for (int set = 0; set < 8; set++) {
            Triplane x = new Triplane();
            put(x, 5);
            x.save(0, false);
            put(x, 6);
            for (int i = 0; i < 3; i++) {
                if ((set >> i & 1) == 0) {
                    x.shut(i);
                }
            }
            Check.same("load", 5, x.load(0));
            for (int i = 0; i < 3; i++) {
                Check.same("the computer " + i, (set >> i & 1) == 1 ? 5 : 6, x.word(i, 0, 0));
            }
            x.clear(0);
            Check.write(x, 0, "r0 0", "o0 0");
            x.frame();
            Check.same("the plain one", 5, x.plain(0));
            Check.same("the output", set == 0 ? 0 : 5, x.output(0));
        }
    }

    private static void loadedOnesForgetFlips() {
        Edge.term("have the words of the newest good copy");
        Triplane x = new Triplane();
        x.save(0, false);
        x.flip(1, 0, 1, 0);
        x.flip(1, 0, 1, 1);
        x.load(0);
        Check.same("the scrubber finds none", 3, x.frame());
        Check.same("and mends none", 0, x.mended(1));
        Check.same("flips count from 1 again", 1, x.flip(1, 0, 1, 0));
    }

    private static void partitionsApart() {
        Edge.term("A partition has two copies of its words");
        Triplane x = new Triplane();
        put(x, 5);
        Check.same("save of 0", 1, x.save(0, false));
        Check.same("save of 0", 2, x.save(0, false));
        Check.same("save of 1", 1, x.save(1, false));
        Check.same("save of 2", 0, x.save(2, true));
        Check.same("load of 1", 0, x.load(1));
        Check.same("the word of 0", 5, x.word(0, 0, 0));
        Check.same("load of 2 is refused", true, Edge.isRefused(x, y -> y.load(2)));
        x.flip(0, 1, 0, 3);
        x.load(0);
        Check.same("the word of 1", 8, x.word(0, 1, 0));
    }

    private static void leastAndMost() {
        Edge.promise(29, "Returns the word 0 of the copy");
        for (int number : new int[] {-32768, -1, 0, 1, 32767}) {
            Triplane x = new Triplane();
            put(x, number);
            x.save(0, false);
            put(x, 7);
            Check.same("load", number, x.load(0));
            Check.same("word", number, x.word(2, 0, 0));
        }
    }
}
