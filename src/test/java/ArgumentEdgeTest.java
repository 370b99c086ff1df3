/** The range of each argument: all of it is taken, what is below or above is refused, and changes nothing. */
final class ArgumentEdgeTest {
    private static final Class<IndexOutOfBoundsException> INDEX = IndexOutOfBoundsException.class;
    private static final Class<IllegalArgumentException> ARGUMENT = IllegalArgumentException.class;
    private static final Edge.State NEW = Triplane::new;

    public static void main(String[] args) {
        ofCode();
        kindsOfCode();
        numbersOfCode();
        ofSlots();
        ofOutputs();
        ofWords();
        ofSticking();
        ofComputers();
        ofSensors();
        ofClocks();
        ofCopies();
        ofActuators();
        ofCommands();
        ofLines();
        Check.end();
    }

    private static void ofCode() {
        Edge.range(2, "the partition, 0 to 2", 0, 2, INDEX, NEW, (x, i) -> x.code(i, 'l', 0, 0));
        for (char kind : "lasmrioj".toCharArray()) {
            Edge.range(2, "the register, 0 to 3", 0, 3, ARGUMENT, NEW, (x, i) -> x.code(0, kind, i, 0));
        }
        Edge.range(3, "the partition, 0 to 2", 0, 2, INDEX, NEW, (x, i) -> x.clear(i));
    }

    private static void kindsOfCode() {
        Edge.promise(2, "the kind");
        for (int kind = 0; kind <= 65535; kind++) {
            char asked = (char) kind;
            boolean isOne = "lasmrioj".indexOf(asked) >= 0;
            Check.same("the kind " + kind, !isOne, Edge.isRefused(new Triplane(), x -> x.code(0, asked, 0, 0)));
        }
        for (char wrong : new char[] {0, ' ', 'L', 'b', 'k', 'n', 'h', 'p', 't', 'q', 'x', 'z', 'l' + 256, 65535}) {
            Edge.refusesAlways("the kind " + (int) wrong, ARGUMENT, x -> x.code(0, wrong, 0, 0));
        }
    }

    private static void numbersOfCode() {
        Edge.range(2, "a number for 'l'", -32768, 32767, ARGUMENT, NEW, (x, n) -> x.code(0, 'l', 0, n));
        for (char kind : "asio".toCharArray()) {
            Edge.range(2, "0 to 3 for 'a', 's', 'i' and 'o'", 0, 3, ARGUMENT, NEW, (x, n) -> x.code(1, kind, 0, n));
        }
        for (char kind : "mr".toCharArray()) {
            Edge.range(2, "0 to 5 for 'm' and 'r'", 0, 5, ARGUMENT, NEW, (x, n) -> x.code(1, kind, 0, n));
        }
        Edge.range(2, "0 to 9 for 'j'", 0, 9, ARGUMENT, NEW, (x, n) -> x.code(1, 'j', 0, n));
    }

    private static void ofSlots() {
        Edge.range(4, "the mode, 0 or 1", 0, 1, INDEX, NEW, (x, i) -> x.slot(i, 0, 0));
        Edge.range(4, "the slot, 0 to 2", 0, 2, INDEX, NEW, (x, i) -> x.slot(0, i, 0));
        Edge.range(4, "the partition, -1 for none", -1, 2, INDEX, NEW, (x, i) -> x.slot(1, 2, i));
    }

    private static void ofOutputs() {
        Edge.range(8, "the output, 0 to 3", 0, 3, INDEX, NEW, (x, i) -> x.output(i));
        Edge.range(9, "the output, 0 to 3", 0, 3, INDEX, NEW, (x, i) -> x.plain(i));
    }

    private static void ofWords() {
        Edge.range(11, "the computer, 0 to 2", 0, 2, INDEX, NEW, (x, i) -> x.word(i, 0, 0));
        Edge.range(11, "the partition, 0 to 2", 0, 2, INDEX, NEW, (x, i) -> x.word(0, i, 0));
        Edge.range(11, "the word, 0 to 5", 0, 5, INDEX, NEW, (x, i) -> x.word(0, 0, i));
        Edge.range(12, "the computer, 0 to 2", 0, 2, INDEX, NEW, (x, i) -> x.flip(i, 0, 0, 0));
        Edge.range(12, "the partition, 0 to 2", 0, 2, INDEX, NEW, (x, i) -> x.flip(0, i, 0, 0));
        Edge.range(12, "`word`: the word", 0, 5, INDEX, NEW, (x, i) -> x.flip(0, 0, i, 0));
        Edge.range(12, "`bit`: the bit", 0, 15, INDEX, NEW, (x, i) -> x.flip(0, 0, 0, i));
    }

    private static void ofSticking() {
        Edge.range(13, "the computer, 0 to 2", 0, 2, INDEX, NEW, (x, i) -> x.stick(i, 0, 0, true));
        Edge.range(13, "`register`: the register", 0, 3, INDEX, NEW, (x, i) -> x.stick(0, i, 0, false));
        Edge.range(13, "`bit`: the bit", 0, 15, INDEX, NEW, (x, i) -> x.stick(0, 0, i, true));
        Edge.range(14, "the computer, 0 to 2", 0, 2, INDEX, NEW, (x, i) -> x.fix(i));
    }

    private static Triplane off(int computer) {
        Triplane x = new Triplane();
        x.shut(computer);
        x.test(computer);
        return x;
    }

    private static void ofComputers() {
        Edge.range(15, "the computer, 0 to 2", 0, 2, INDEX, NEW, (x, i) -> x.isOn(i));
        Edge.range(16, "the computer, 0 to 2", 0, 2, INDEX, NEW, (x, i) -> x.strikes(i));
        Edge.range(17, "the computer, 0 to 2", 0, 2, INDEX, NEW, (x, i) -> x.shut(i));
        Edge.range(18, "the computer, 0 to 2", 0, 2, INDEX, States::allOff, (x, i) -> x.test(i));
        Edge.promise(19, "the computer, 0 to 2");
        for (int i = 0; i < 3; i++) {
            int computer = i;
            Edge.accepts("off and tested", () -> off(computer), x -> x.back(computer));
        }
        for (int wrong : new int[] {-1, 3, Integer.MIN_VALUE, Integer.MAX_VALUE}) {
            Edge.refusesAlways("the value " + wrong, INDEX, x -> x.back(wrong));
        }
        Edge.range(20, "the computer, 0 to 2", 0, 2, INDEX, NEW, (x, i) -> x.mended(i));
        Edge.range(21, "the partition, 0 to 2", 0, 2, INDEX, NEW, (x, i) -> x.overruns(i));
    }

    private static void ofSensors() {
        Edge.range(22, "the sensor, 0 to 3", 0, 3, INDEX, NEW, (x, i) -> x.read(i, 0, 0, 0));
        Edge.range(22, "the first one", -32768, 32767, ARGUMENT, NEW, (x, n) -> x.read(0, n, 0, 0));
        Edge.range(22, "the second one", -32768, 32767, ARGUMENT, NEW, (x, n) -> x.read(0, 0, n, 0));
        Edge.range(22, "the third one", -32768, 32767, ARGUMENT, NEW, (x, n) -> x.read(0, 0, 0, n));
        Edge.range(23, "the sensor, 0 to 3", 0, 3, INDEX, NEW, (x, i) -> x.limit(i, 0));
        Edge.range(23, "the limit, 0 to 32767", 0, 32767, ARGUMENT, NEW, (x, n) -> x.limit(0, n));
        Edge.range(24, "the sensor, 0 to 3", 0, 3, INDEX, NEW, (x, i) -> x.agreed(i));
    }

    private static void ofClocks() {
        Edge.range(25, "the computer, 0 to 2", 0, 2, INDEX, NEW, (x, i) -> x.drift(i, 0));
        Edge.range(25, "the drift, -9 to 9", -9, 9, ARGUMENT, NEW, (x, n) -> x.drift(0, n));
        Edge.range(26, "the computer, 0 to 2", 0, 2, INDEX, NEW, (x, i) -> x.lie(i, i == 0 ? 1 : 0, 0));
        Edge.range(26, "another computer", 0, 2, INDEX, NEW, (x, i) -> x.lie(i == 0 ? 1 : 0, i, 0));
        Edge.range(26, "the lie, -999 to 999", -999, 999, ARGUMENT, NEW, (x, n) -> x.lie(0, 1, n));
        Edge.range(27, "the computer, 0 to 2", 0, 2, INDEX, NEW, (x, i) -> x.clock(i));
    }

    private static Triplane saved() {
        Triplane x = new Triplane();
        for (int i = 0; i < 3; i++) {
            x.save(i, false);
        }
        return x;
    }

    private static void ofCopies() {
        Edge.range(28, "the partition, 0 to 2", 0, 2, INDEX, NEW, (x, i) -> x.save(i, false));
        Edge.range(28, "the partition, 0 to 2", 0, 2, INDEX, NEW, (x, i) -> x.save(i, true));
        Edge.range(29, "the partition, 0 to 2", 0, 2, INDEX, ArgumentEdgeTest::saved, (x, i) -> x.load(i));
    }

    private static void ofActuators() {
        Edge.range(30, "the output, 0 to 3", 0, 3, INDEX, NEW, (x, i) -> x.fault(i, 0, 0));
        Edge.range(30, "the channel, 0 to 2", 0, 2, INDEX, NEW, (x, i) -> x.fault(0, i, 0));
        Edge.range(30, "the fault, -999 to 999", -999, 999, ARGUMENT, NEW, (x, n) -> x.fault(3, 2, n));
        Edge.range(31, "the output, 0 to 3", 0, 3, INDEX, NEW, (x, i) -> x.position(i));
        Edge.range(32, "the output, 0 to 3", 0, 3, INDEX, NEW, (x, i) -> x.hasLetGo(i));
    }

    private static void ofCommands() {
        Edge.promise(33, "'m' or 'a'");
        for (int command = 0; command <= 65535; command++) {
            char asked = (char) command;
            boolean isOne = asked == 'm' || asked == 'a';
            Check.same("arm of " + command, !isOne, Edge.isRefused(new Triplane(), x -> x.arm(asked)));
        }
        Edge.promise(34, "'m' or 'a'");
        for (char command : new char[] {'m', 'a'}) {
            Edge.accepts("give of " + command, NEW, x -> x.arm(command) + x.give(command));
        }
        for (char wrong : new char[] {0, ' ', 'A', 'M', '`', 'b', 'l', 'n', 'a' + 256, 'm' + 256, 65535}) {
            Edge.promise(33, "'m' or 'a'");
            Edge.refusesAlways("arm of " + (int) wrong, ARGUMENT, x -> x.arm(wrong));
            Edge.promise(34, "'m' or 'a'");
            Edge.refusesAlways("give of " + (int) wrong, ARGUMENT, x -> x.give(wrong));
        }
    }

    private static Triplane logged() {
        Triplane x = new Triplane();
        x.shut(2);
        x.frame();
        x.shut(1);
        return x;
    }

    private static void ofLines() {
        Edge.promise(35, "the index, 0 for the latest one");
        Edge.answers("the index 0", 1, ArgumentEdgeTest::logged, x -> x.line(0, 't'));
        Edge.answers("the index 1", 0, ArgumentEdgeTest::logged, x -> x.line(1, 't'));
        for (int wrong : new int[] {-1, 2, Integer.MIN_VALUE, Integer.MAX_VALUE}) {
            Edge.refuses("the index " + wrong, java.util.NoSuchElementException.class, ArgumentEdgeTest::logged,
                    x -> x.line(wrong, 't'));
        }
        Edge.promise(35, "'t' the time, 'c' the computer, 'r' the letter as a number");
        Edge.answers("the computer", 1, ArgumentEdgeTest::logged, x -> x.line(0, 'c'));
        Edge.answers("the letter", (int) 'h', ArgumentEdgeTest::logged, x -> x.line(0, 'r'));
        for (int what = 0; what <= 65535; what++) {
            char asked = (char) what;
            boolean isOne = asked == 't' || asked == 'c' || asked == 'r';
            Check.same("a line's " + what, !isOne, Edge.isRefused(logged(), x -> x.line(1, asked)));
        }
        for (char wrong : new char[] {0, 'T', 'b', 'd', 'q', 's', 'u', 't' + 256, 65535}) {
            Edge.refusesAlways("a line's " + (int) wrong, ARGUMENT, x -> x.line(0, wrong));
        }
    }
}
