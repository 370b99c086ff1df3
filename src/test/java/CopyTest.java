import java.util.NoSuchElementException;

/** Promises 28 and 29: copies, saved and loaded. */
final class CopyTest {
    public static void main(String[] args) {
        savesAndLoads();
        theNewestGoodOneOutlives();
        aBadOneTakesAnOldOneAway();
        withoutFlips();
        offOnesLoadNothing();
        partitionsAreApart();
        Check.end();
    }

    /** Lets all words of the partition 0 be this number, by frames whose outputs are 0. */
    private static void fill(Triplane x, int number) {
        x.clear(0);
        Check.write(x, 0, "l0 " + number, "m0 0", "m0 1", "m0 2", "m0 3", "m0 4", "m0 5");
        x.slot(0, 0, 0);
        x.frame();
    }

    private static void savesAndLoads() {
        Triplane x = new Triplane();
        Check.refuses("load", NoSuchElementException.class, x, () -> x.load(0));
        fill(x, 7);
        Check.same("save", 1, x.save(0, false));
        fill(x, 8);
        Check.same("load", 7, x.load(0));
        for (int i = 0; i < 18; i++) {
            Check.same("words", 7, x.word(i / 6, 0, i % 6));
        }
        Check.same("save again", 2, x.save(0, false));
        Check.same("and again", 2, x.save(0, false));
        x.clear(0);
        Check.write(x, 0, "r0 5", "o0 1");
        x.frame();
        Check.same("the plain one has it too", 7, x.plain(1));
        Check.same("all as the plain one", true, x.isPlain());
        Check.same("still true", true, x.isTrue());
        x.clear(0);
        Check.write(x, 0, "l0 1", "m0 0", "l0 2", "m0 1", "l0 3", "m0 5");
        x.frame();
        x.save(0, false);
        Check.same("the answer is the word 0", 1, x.load(0));
        Check.same("the word 1", 2, x.word(0, 0, 1));
        Check.same("the word 5", 3, x.word(0, 0, 5));
    }

    private static void theNewestGoodOneOutlives() {
        Triplane x = new Triplane();
        fill(x, 1);
        Check.same("a cut one", 0, x.save(0, true));
        Check.refuses("load", NoSuchElementException.class, x, () -> x.load(0));
        Check.same("the same one, good", 1, x.save(0, false));
        fill(x, 2);
        Check.same("the other one, good", 2, x.save(0, false));
        Check.same("the newest", 2, x.load(0));
        fill(x, 3);
        Check.same("the first one again", 2, x.save(0, false));
        Check.same("the newest", 3, x.load(0));
    }

    private static void aBadOneTakesAnOldOneAway() {
        Triplane x = new Triplane();
        fill(x, 1);
        x.save(0, false);
        fill(x, 2);
        x.save(0, false);
        fill(x, 3);
        Check.same("cut", 1, x.save(0, true));
        Check.same("the newest good one", 2, x.load(0));
        Check.same("cut again", 1, x.save(0, true));
        Check.same("the newest good one still", 2, x.load(0));
        Check.same("good again", 2, x.save(0, false));
        Check.same("what was loaded", 2, x.load(0));
    }

    private static void withoutFlips() {
        Triplane x = new Triplane();
        fill(x, 4);
        x.flip(0, 0, 0, 0);
        x.flip(0, 0, 0, 1);
        x.save(0, false);
        Check.same("saving mends nothing", 7, x.word(0, 0, 0));
        Check.same("the copy", 4, x.load(0));
        Check.same("loading writes", 4, x.word(0, 0, 0));
        Check.same("flips are gone", 1, x.flip(0, 0, 0, 5));
        Check.same("nothing mended", 0, x.mended(0));
    }

    private static void offOnesLoadNothing() {
        Triplane x = new Triplane();
        fill(x, 5);
        x.save(0, false);
        fill(x, 6);
        x.shut(1);
        x.load(0);
        Check.same("on", 5, x.word(0, 0, 3));
        Check.same("off", 6, x.word(1, 0, 3));
        x.shut(0);
        x.shut(2);
        Check.refuses("save with all off", UnsupportedOperationException.class, x, () -> x.save(0, false));
        Check.refuses("cut with all off", UnsupportedOperationException.class, x, () -> x.save(0, true));
        Check.same("load with all off", 5, x.load(0));
        Check.same("off", 6, x.word(1, 0, 3));
    }

    private static void partitionsAreApart() {
        Triplane x = new Triplane();
        fill(x, 5);
        x.save(0, false);
        Check.refuses("load of another one", NoSuchElementException.class, x, () -> x.load(1));
        Check.same("save of another one", 1, x.save(1, false));
        Check.same("load of another one", 0, x.load(1));
        Check.same("the first one", 5, x.word(0, 0, 0));
    }
}
