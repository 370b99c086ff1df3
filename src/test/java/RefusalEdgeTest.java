import java.util.NoSuchElementException;

/** The edges of 'Exceptions': each of them where only it applies, and the first one where several do. */
final class RefusalEdgeTest {
    private static final Class<IndexOutOfBoundsException> INDEX = IndexOutOfBoundsException.class;
    private static final Class<IllegalArgumentException> ARGUMENT = IllegalArgumentException.class;
    private static final Class<IllegalStateException> STATE = IllegalStateException.class;
    private static final Class<UnsupportedOperationException> UNSUPPORTED = UnsupportedOperationException.class;
    private static final Class<NoSuchElementException> NONE = NoSuchElementException.class;

    public static void main(String[] args) {
        aFullPartition();
        codeOrder();
        slotsOfSeveralWrongs();
        sevenStatesOfShut();
        readOrder();
        limitAndDriftOrder();
        lieOrder();
        saveOrder();
        loadOrder();
        faultOrder();
        giveOrder();
        lineOrder();
        severalIndexes();
        refusedOnesInARow();
        Check.end();
    }

    private static void aFullPartition() {
        Edge.promise(2, "if it has 10");
        for (char kind : "lasmrioj".toCharArray()) {
            Edge.refuses("the eleventh", STATE, States::busy, x -> x.code(2, kind, 3, 3));
            Edge.accepts("of another partition", States::busy, x -> x.code(1, kind, 3, 3));
        }
        Edge.refuses("of one that had an overrun", STATE, RefusalEdgeTest::fullAndEndless, x -> x.code(0, 'j', 1, 0));
        Edge.accepts("the tenth", () -> holding(9), x -> x.code(0, 'l', 0, 0));
        Edge.refuses("the eleventh", STATE, () -> holding(10), x -> x.code(0, 'l', 0, 0));
        Edge.accepts("behind a clear", () -> {
            Triplane x = holding(10);
            x.clear(0);
            return x;
        }, x -> x.code(0, 'l', 0, 0));
    }

    private static Triplane holding(int size) {
        Triplane x = new Triplane();
        for (int i = 0; i < size; i++) {
            x.code(0, 'l', 1, i);
        }
        return x;
    }

    private static Triplane fullAndEndless() {
        Triplane x = holding(8);
        Check.write(x, 0, "m1 4", "j1 7");
        x.slot(0, 2, 0);
        x.frame();
        Check.same("overruns", 1, x.overruns(0));
        return x;
    }

    private static void codeOrder() {
        Edge.term("If several exceptions apply, the exception listed first is thrown");
        Edge.refusesAlways("no partition, no kind", INDEX, x -> x.code(3, 'x', 0, 0));
        Edge.refusesAlways("no partition, no register", INDEX, x -> x.code(-1, 'l', 4, 0));
        Edge.refusesAlways("no partition, no number", INDEX, x -> x.code(3, 'l', 0, 32768));
        Edge.promise(2, "if there is no such kind, or a number is out of range");
        Edge.refuses("a full one, no kind", ARGUMENT, States::busy, x -> x.code(2, 'x', 0, 0));
        Edge.refuses("a full one, no register", ARGUMENT, States::busy, x -> x.code(2, 'l', -1, 0));
        Edge.refuses("a full one, no number", ARGUMENT, States::busy, x -> x.code(2, 'j', 0, 10));
        Edge.promise(2, "if there is no such partition");
        Edge.refuses("no partition, beside a full one", INDEX, States::busy, x -> x.code(3, 'l', 0, 0));
        Edge.promise(3, "if there is no such partition");
        Edge.refusesAlways("clear", INDEX, x -> x.clear(3));
    }

    private static void slotsOfSeveralWrongs() {
        Edge.promise(4, "if there is no such mode, slot or partition");
        for (int wrong = 1; wrong < 8; wrong++) {
            int mode = (wrong & 1) == 0 ? 0 : 2;
            int slot = (wrong & 2) == 0 ? 0 : 3;
            int partition = (wrong & 4) == 0 ? 0 : -2;
            Edge.refusesAlways("slot", INDEX, x -> x.slot(mode, slot, partition));
        }
    }

    private static void sevenStatesOfShut() {
        for (int off = 0; off < 8; off++) {
            int set = off;
            for (int i = 0; i < 3; i++) {
                int computer = i;
                boolean isOff = (set >> i & 1) == 1;
                Edge.promise(17, "if it is off");
                if (isOff) {
                    Edge.refuses("shut of an off one", UNSUPPORTED, () -> without(set), x -> x.shut(computer));
                } else {
                    Edge.accepts("shut of one that is on", () -> without(set), x -> x.shut(computer));
                    Edge.promise(18, "if it is on");
                    Edge.refuses("test of one that is on", UNSUPPORTED, () -> without(set), x -> x.test(computer));
                }
                Edge.promise(19, "if it is on, or not tested, or no other one is on");
                Edge.refuses("back of one that is not tested", UNSUPPORTED, () -> without(set), x -> x.back(computer));
            }
            Edge.promise(17, "if there is no such computer");
            Edge.refuses("shut", INDEX, () -> without(set), x -> x.shut(3));
            Edge.promise(18, "if there is no such computer");
            Edge.refuses("test", INDEX, () -> without(set), x -> x.test(3));
            Edge.promise(19, "if there is no such computer");
            Edge.refuses("back", INDEX, () -> without(set), x -> x.back(3));
        }
    }

    private static Triplane without(int set) {
        Triplane x = new Triplane();
        for (int i = 0; i < 3; i++) {
            if ((set >> i & 1) == 1) {
                x.shut(i);
            }
        }
        return x;
    }

    private static void readOrder() {
        Edge.promise(22, "if there is no such sensor");
        Edge.refusesAlways("no sensor, no number", INDEX, x -> x.read(4, 32768, 0, 0));
        Edge.refusesAlways("no sensor, no number", INDEX, x -> x.read(-1, 0, 0, -32769));
        Edge.promise(22, "if a number is out of range");
        Edge.refusesAlways("all three", ARGUMENT, x -> x.read(1, 32768, 32768, 32768));
        Edge.refusesAlways("one, though the middle is a number", ARGUMENT, x -> x.read(1, -32769, 1, 32767));
        Edge.refusesAlways("two of them", ARGUMENT, x -> x.read(1, 32768, 1, -32769));
    }

    private static void limitAndDriftOrder() {
        Edge.promise(23, "if there is no such sensor");
        Edge.refusesAlways("no sensor, below", INDEX, x -> x.limit(4, -1));
        Edge.refusesAlways("no sensor, above", INDEX, x -> x.limit(-1, 32768));
        Edge.promise(23, "if a number is out of range");
        Edge.refusesAlways("below", ARGUMENT, x -> x.limit(3, -1));
        Edge.refusesAlways("above", ARGUMENT, x -> x.limit(3, 32768));
        Edge.promise(24, "if there is no such sensor");
        Edge.refusesAlways("agreed", INDEX, x -> x.agreed(4));
        Edge.promise(25, "if there is no such computer");
        Edge.refusesAlways("no computer, above", INDEX, x -> x.drift(3, 10));
        Edge.refusesAlways("no computer, below", INDEX, x -> x.drift(-1, -10));
        Edge.promise(25, "if a number is out of range");
        Edge.refusesAlways("above", ARGUMENT, x -> x.drift(2, 10));
        Edge.refusesAlways("below", ARGUMENT, x -> x.drift(2, -10));
    }

    private static void lieOrder() {
        Edge.promise(26, "if there is no such computer, for either");
        Edge.refusesAlways("the first one", INDEX, x -> x.lie(3, 0, 0));
        Edge.refusesAlways("the other one", INDEX, x -> x.lie(0, 3, 0));
        Edge.refusesAlways("both, the same", INDEX, x -> x.lie(3, 3, 0));
        Edge.refusesAlways("both, the same", INDEX, x -> x.lie(-1, -1, 1000));
        Edge.refusesAlways("the other one, and above", INDEX, x -> x.lie(2, -1, 1000));
        Edge.refusesAlways("the first one, and below", INDEX, x -> x.lie(-1, 2, -1000));
        Edge.promise(26, "if both are the same, or it is out of range");
        for (int i = 0; i < 3; i++) {
            int computer = i;
            Edge.refusesAlways("the same", ARGUMENT, x -> x.lie(computer, computer, 0));
            Edge.refusesAlways("the same, and above", ARGUMENT, x -> x.lie(computer, computer, 1000));
            Edge.refusesAlways("above", ARGUMENT, x -> x.lie(computer, (computer + 1) % 3, 1000));
            Edge.refusesAlways("below", ARGUMENT, x -> x.lie(computer, (computer + 2) % 3, -1000));
        }
        Edge.promise(27, "if there is no such computer");
        Edge.refusesAlways("clock", INDEX, x -> x.clock(3));
    }

    private static void saveOrder() {
        Edge.promise(28, "if there is no such partition");
        Edge.refuses("no partition, none on", INDEX, States::allOff, x -> x.save(3, false));
        Edge.refuses("no partition, none on", INDEX, States::allOff, x -> x.save(-1, true));
        Edge.promise(28, "if no computer is on");
        Edge.refuses("none on", UNSUPPORTED, States::allOff, x -> x.save(0, false));
        for (int set = 0; set < 7; set++) {
            int off = set;
            Edge.answers("one or more on", 1, () -> without(off), x -> x.save(0, false));
        }
        Edge.refuses("none on", UNSUPPORTED, () -> without(7), x -> x.save(0, false));
        Edge.refuses("none on, cut", UNSUPPORTED, () -> without(7), x -> x.save(0, true));
    }

    private static void loadOrder() {
        Edge.promise(29, "if there is no such partition");
        Edge.refusesAlways("no partition", INDEX, x -> x.load(3));
        Edge.refusesAlways("no partition", INDEX, x -> x.load(-1));
        Edge.promise(29, "if there is no good copy");
        Edge.refuses("no copy", NONE, States::busy, x -> x.load(2));
        Edge.refuses("a bad one alone", NONE, States::busy, x -> x.load(1));
        Edge.refuses("a bad one alone, none on", NONE, States::allOff, x -> x.load(1));
        Edge.accepts("a good one", States::busy, x -> x.load(0));
        Edge.accepts("a good one, none on", States::allOff, x -> x.load(0));
    }

    private static void faultOrder() {
        Edge.promise(30, "if there is no such output or channel");
        Edge.refusesAlways("no output, no channel, above", INDEX, x -> x.fault(4, 3, 1000));
        Edge.refusesAlways("no output, below", INDEX, x -> x.fault(-1, 0, -1000));
        Edge.refusesAlways("no channel, above", INDEX, x -> x.fault(0, -1, 1000));
        Edge.refusesAlways("the channel 3 of four outputs", INDEX, x -> x.fault(3, 3, 0));
        Edge.promise(30, "if a number is out of range");
        Edge.refusesAlways("above", ARGUMENT, x -> x.fault(3, 2, 1000));
        Edge.refusesAlways("below", ARGUMENT, x -> x.fault(3, 2, -1000));
        Edge.promise(31, "if there is no such output");
        Edge.refusesAlways("position", INDEX, x -> x.position(4));
        Edge.promise(32, "if there is no such output");
        Edge.refusesAlways("hasLetGo", INDEX, x -> x.hasLetGo(4));
    }

    private static void giveOrder() {
        Edge.promise(33, "if there is no such command");
        Edge.refusesAlways("arm", ARGUMENT, x -> x.arm('x'));
        Edge.promise(34, "if there is no such command");
        Edge.refuses("none armed", ARGUMENT, Triplane::new, x -> x.give('x'));
        Edge.refuses("the char 0, none armed", ARGUMENT, Triplane::new, x -> x.give((char) 0));
        Edge.refuses("too late", ARGUMENT, () -> armed(4), x -> x.give('x'));
        Edge.promise(34, "if it is not armed, or too late");
        Edge.refuses("none armed", UNSUPPORTED, Triplane::new, x -> x.give('m'));
        Edge.refuses("another one armed", UNSUPPORTED, () -> armed(0), x -> x.give('a'));
        Edge.refuses("too late", UNSUPPORTED, () -> armed(4), x -> x.give('m'));
        Edge.refuses("another one, too late", UNSUPPORTED, () -> armed(4), x -> x.give('a'));
        Edge.accepts("in time", () -> armed(3), x -> x.give('m'));
    }

    private static Triplane armed(int frames) {
        Triplane x = new Triplane();
        x.arm('m');
        Check.frames(x, frames);
        return x;
    }

    private static void lineOrder() {
        Edge.promise(35, "if there is no such thing");
        Edge.refuses("an empty log", ARGUMENT, Triplane::new, x -> x.line(0, 'x'));
        Edge.refusesAlways("no index", ARGUMENT, x -> x.line(-1, 'x'));
        Edge.refusesAlways("no index", ARGUMENT, x -> x.line(Integer.MAX_VALUE, (char) 0));
        Edge.promise(35, "if there is no such line");
        Edge.refusesAlways("no index", NONE, x -> x.line(-1, 't'));
        Edge.refusesAlways("no index", NONE, x -> x.line(30, 'c'));
        Edge.refusesAlways("no index", NONE, x -> x.line(Integer.MAX_VALUE, 'r'));
    }

    private static void severalIndexes() {
        Edge.promise(8, "if there is no such output");
        Edge.refusesAlways("output", INDEX, x -> x.output(4));
        Edge.promise(9, "if there is no such output");
        Edge.refusesAlways("plain", INDEX, x -> x.plain(4));
        Edge.promise(11, "if there is no such computer, partition or word");
        for (int wrong = 1; wrong < 8; wrong++) {
            int computer = (wrong & 1) == 0 ? 2 : 3;
            int partition = (wrong & 2) == 0 ? 2 : 3;
            int word = (wrong & 4) == 0 ? 5 : 6;
            Edge.refusesAlways("word", INDEX, x -> x.word(computer, partition, word));
        }
        for (int wrong = 1; wrong < 16; wrong++) {
            int computer = (wrong & 1) == 0 ? 0 : -1;
            int partition = (wrong & 2) == 0 ? 0 : -1;
            int word = (wrong & 4) == 0 ? 0 : -1;
            int bit = (wrong & 8) == 0 ? 15 : 16;
            int register = (wrong & 4) == 0 ? 3 : 4;
            Edge.promise(12, "if there is no such computer, partition, word or bit");
            Edge.refusesAlways("flip", INDEX, x -> x.flip(computer, partition, word, bit));
            if ((wrong & 13) != 0) {
                Edge.promise(13, "if there is no such computer, register or bit");
                Edge.refusesAlways("stick", INDEX, x -> x.stick(computer, register, bit, true));
            }
        }
        Edge.promise(14, "if there is no such computer");
        Edge.refusesAlways("fix", INDEX, x -> x.fix(3));
        Edge.promise(15, "if there is no such computer");
        Edge.refusesAlways("isOn", INDEX, x -> x.isOn(3));
        Edge.promise(16, "if there is no such computer");
        Edge.refusesAlways("strikes", INDEX, x -> x.strikes(3));
        Edge.promise(20, "if there is no such computer");
        Edge.refusesAlways("mended", INDEX, x -> x.mended(3));
        Edge.promise(21, "if there is no such partition");
        Edge.refusesAlways("overruns", INDEX, x -> x.overruns(3));
    }

    private static void refusedOnesInARow() {
        Edge.term("A method that throws an exception changes nothing");
        Edge.State[] states = {Triplane::new, States::busy, States::later, States::allOff};
        Edge.Call[] calls = {
            x -> x.code(3, 'l', 0, 0), x -> x.code(0, 'l', 0, 40000), x -> x.clear(-1), x -> x.slot(0, 0, 3),
            x -> x.flip(0, 0, 1, 16), x -> x.stick(0, 0, 16, true), x -> x.fix(3), x -> x.shut(-1), x -> x.test(3),
            x -> x.back(-1), x -> x.read(1, 5, 5, 40000), x -> x.limit(1, -1), x -> x.drift(0, 10),
            x -> x.lie(0, 1, 1000), x -> x.save(3, true), x -> x.load(3), x -> x.fault(0, 0, -1000), x -> x.arm('M'),
            x -> x.give('A'), x -> x.line(-1, 't'),
        };
        for (int i = 0; i < states.length; i++) {
            Triplane x = states[i].make();
            for (Edge.Call call : calls) {
                Check.same("refused", true, Edge.isRefused(x, call));
            }
            Check.same("the state " + i + " behind all of them", Probe.of(states[i].make()), Probe.of(x));
        }
    }
}
