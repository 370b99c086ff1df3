import java.util.NoSuchElementException;

/** A flight computer of three that vote; ../shared/DOC.md says what it promises. */
public final class Triplane {
    private static final int COMPUTERS = 3;
    private static final int PARTITIONS = 3;
    private static final int MODES = 2;
    private static final int SLOTS = 3;
    private static final int OUTPUTS = 4;
    private static final int CHANNELS = 3;
    private static final int SENSORS = 4;
    private static final int REGISTERS = 4;
    private static final int WORDS = 6;
    private static final int ALL_WORDS = 18;
    private static final int BITS = 16;
    private static final int INSTRUCTIONS = 10;
    private static final int BEATS = 30;
    private static final int STRIKES = 3;
    private static final int FRAMES_ARMED = 3;
    private static final int FAR_FRAMES = 3;
    private static final int LINES = 30;
    private static final int MOST_SPREAD = 100;
    private static final int MOST_DRIFT = 9;
    private static final int MOST_WRONG = 999;
    private static final int LEAST_NUMBER = -32768;
    private static final int MOST_NUMBER = 32767;
    private static final int NONE = -1;
    private static final char NO_COMMAND = 0;

    private final Computer[] computers = new Computer[COMPUTERS];
    private final Computer plainComputer = new Computer();
    private final Program[] programs = new Program[PARTITIONS];
    private final Copies[] copies = new Copies[PARTITIONS];
    private final int[][] slots = new int[MODES][SLOTS];
    private final Sensor[] sensors = new Sensor[SENSORS];
    private final Actuator[] actuators = new Actuator[OUTPUTS];
    private final int[] outputs = new int[OUTPUTS];
    private final int[] plainOutputs = new int[OUTPUTS];
    private final Log log = new Log();
    private int frames = 0;
    private int currentMode = 0;
    private char armedCommand = NO_COMMAND;
    private int armedUntil = 0;
    private boolean hadFault = false;
    private boolean hadFrameAllOff = false;

    public Triplane() {
        for (int i = 0; i < COMPUTERS; i++) {
            computers[i] = new Computer();
        }
        for (int i = 0; i < PARTITIONS; i++) {
            programs[i] = new Program();
            copies[i] = new Copies();
        }
        for (int i = 0; i < SENSORS; i++) {
            sensors[i] = new Sensor();
        }
        for (int i = 0; i < OUTPUTS; i++) {
            actuators[i] = new Actuator();
        }
        for (int i = 0; i < MODES; i++) {
            for (int j = 0; j < SLOTS; j++) {
                slots[i][j] = NONE;
            }
        }
    }

    public int code(int partition, char kind, int register, int n)
            throws IndexOutOfBoundsException, IllegalArgumentException, IllegalStateException {
        requireIndex(partition, PARTITIONS);
        requireFit(Program.isInstruction(kind, register, n));
        Program program = programs[partition];
        if (program.size >= INSTRUCTIONS) {
            throw new IllegalStateException("the partition is full");
        }
        return program.append(kind, register, n);
    }

    public int clear(int partition) throws IndexOutOfBoundsException {
        requireIndex(partition, PARTITIONS);
        int before = programs[partition].size;
        programs[partition].size = 0;
        return before;
    }

    public int slot(int mode, int slot, int partition) throws IndexOutOfBoundsException {
        requireIndex(mode, MODES);
        requireIndex(slot, SLOTS);
        if (partition != NONE) {
            requireIndex(partition, PARTITIONS);
        }
        int before = slots[mode][slot];
        slots[mode][slot] = partition;
        return before;
    }

    public int frame() {
        frames++;
        if (countOn() == 0) {
            hadFrameAllOff = true;
        }
        for (int i = 0; i < SENSORS; i++) {
            sensors[i].agree();
        }
        for (int i = 0; i < SLOTS; i++) {
            int partition = slots[currentMode][i];
            if (partition != NONE) {
                runSlot(partition);
            }
        }
        scrub();
        tickClocks();
        if (countOn() == COMPUTERS) {
            holdClocksTogether();
        }
        for (int i = 0; i < OUTPUTS; i++) {
            actuators[i].move(outputs[i]);
        }
        return countOn();
    }

    public int time() {
        return frames;
    }

    public int mode() {
        return currentMode;
    }

    public int output(int output) throws IndexOutOfBoundsException {
        requireIndex(output, OUTPUTS);
        return outputs[output];
    }

    public int plain(int output) throws IndexOutOfBoundsException {
        requireIndex(output, OUTPUTS);
        return plainOutputs[output];
    }

    public boolean isPlain() {
        for (int i = 0; i < OUTPUTS; i++) {
            if (outputs[i] != plainOutputs[i]) {
                return false;
            }
        }
        return true;
    }

    public int word(int computer, int partition, int word) throws IndexOutOfBoundsException {
        requireIndex(computer, COMPUTERS);
        requireIndex(partition, PARTITIONS);
        requireIndex(word, WORDS);
        return computers[computer].memory.seen(WORDS * partition + word);
    }

    public int flip(int computer, int partition, int word, int bit) throws IndexOutOfBoundsException {
        requireIndex(computer, COMPUTERS);
        requireIndex(partition, PARTITIONS);
        requireIndex(word, WORDS);
        requireIndex(bit, BITS);
        hadFault = true;
        return computers[computer].memory.turn(WORDS * partition + word, bit);
    }

    public boolean stick(int computer, int register, int bit, boolean isSet) throws IndexOutOfBoundsException {
        requireIndex(computer, COMPUTERS);
        requireIndex(register, REGISTERS);
        requireIndex(bit, BITS);
        hadFault = true;
        boolean before = computers[computer].hasStuckBit();
        computers[computer].letStick(register, bit, isSet);
        return before;
    }

    public boolean fix(int computer) throws IndexOutOfBoundsException {
        requireIndex(computer, COMPUTERS);
        boolean before = computers[computer].hasStuckBit();
        computers[computer].stuckRegister = NONE;
        return before;
    }

    public boolean isOn(int computer) throws IndexOutOfBoundsException {
        requireIndex(computer, COMPUTERS);
        return computers[computer].isRunning;
    }

    public int strikes(int computer) throws IndexOutOfBoundsException {
        requireIndex(computer, COMPUTERS);
        return computers[computer].strikeCount;
    }

    public int shut(int computer) throws IndexOutOfBoundsException, UnsupportedOperationException {
        requireIndex(computer, COMPUTERS);
        requireState(computers[computer].isRunning);
        shutOff(computer, 'h');
        return countOn();
    }

    public boolean test(int computer) throws IndexOutOfBoundsException, UnsupportedOperationException {
        requireIndex(computer, COMPUTERS);
        Computer tested = computers[computer];
        requireState(!tested.isRunning);
        if (tested.hasStuckBit()) {
            return false;
        }
        tested.isTested = true;
        return true;
    }

    public int back(int computer) throws IndexOutOfBoundsException, UnsupportedOperationException {
        requireIndex(computer, COMPUTERS);
        Computer returning = computers[computer];
        int model = lowestOn();
        requireState(!returning.isRunning && returning.isTested && model != NONE);
        returning.resumeLike(computers[model]);
        log.append(frames, computer, 'b');
        return countOn();
    }

    public int mended(int computer) throws IndexOutOfBoundsException {
        requireIndex(computer, COMPUTERS);
        return computers[computer].memory.mendedBits;
    }

    public int overruns(int partition) throws IndexOutOfBoundsException {
        requireIndex(partition, PARTITIONS);
        return programs[partition].overrunCount;
    }

    public int read(int sensor, int one, int two, int three)
            throws IndexOutOfBoundsException, IllegalArgumentException {
        requireIndex(sensor, SENSORS);
        requireFit(Numbers.isNumber(one) && Numbers.isNumber(two) && Numbers.isNumber(three));
        sensors[sensor].middle = Numbers.middle(one, two, three);
        return sensors[sensor].middle;
    }

    public int limit(int sensor, int limit) throws IndexOutOfBoundsException, IllegalArgumentException {
        requireIndex(sensor, SENSORS);
        requireFit(Numbers.isWithin(limit, 0, MOST_NUMBER));
        int before = sensors[sensor].farthest;
        sensors[sensor].farthest = limit;
        return before;
    }

    public int agreed(int sensor) throws IndexOutOfBoundsException {
        requireIndex(sensor, SENSORS);
        return sensors[sensor].agreedNumber;
    }

    public int drift(int computer, int drift) throws IndexOutOfBoundsException, IllegalArgumentException {
        requireIndex(computer, COMPUTERS);
        requireFit(Numbers.isWithin(drift, -MOST_DRIFT, MOST_DRIFT));
        int before = computers[computer].driftPerFrame;
        computers[computer].driftPerFrame = drift;
        return before;
    }

    public int lie(int computer, int other, int by) throws IndexOutOfBoundsException, IllegalArgumentException {
        requireIndex(computer, COMPUTERS);
        requireIndex(other, COMPUTERS);
        requireFit(computer != other && Numbers.isWithin(by, -MOST_WRONG, MOST_WRONG));
        int before = computers[computer].lies[other];
        computers[computer].lies[other] = by;
        return before;
    }

    public int clock(int computer) throws IndexOutOfBoundsException {
        requireIndex(computer, COMPUTERS);
        return computers[computer].clockNow;
    }

    public int save(int partition, boolean isCut) throws IndexOutOfBoundsException, UnsupportedOperationException {
        requireIndex(partition, PARTITIONS);
        int model = lowestOn();
        requireState(model != NONE);
        if (isCut) {
            copies[partition].spoil();
        } else {
            copies[partition].keep(computers[model].memory, WORDS * partition);
        }
        return copies[partition].countGood();
    }

    public int load(int partition) throws IndexOutOfBoundsException, NoSuchElementException {
        requireIndex(partition, PARTITIONS);
        Copies kept = copies[partition];
        if (kept.newest == NONE) {
            throw new NoSuchElementException("no good copy");
        }
        for (int i = 0; i < COMPUTERS; i++) {
            if (computers[i].isRunning) {
                kept.restore(computers[i].memory, WORDS * partition);
            }
        }
        kept.restore(plainComputer.memory, WORDS * partition);
        return kept.firstWord();
    }

    public int fault(int output, int channel, int by) throws IndexOutOfBoundsException, IllegalArgumentException {
        requireIndex(output, OUTPUTS);
        requireIndex(channel, CHANNELS);
        requireFit(Numbers.isWithin(by, -MOST_WRONG, MOST_WRONG));
        int before = actuators[output].faults[channel];
        actuators[output].faults[channel] = by;
        return before;
    }

    public int position(int output) throws IndexOutOfBoundsException {
        requireIndex(output, OUTPUTS);
        return actuators[output].place;
    }

    public boolean hasLetGo(int output) throws IndexOutOfBoundsException {
        requireIndex(output, OUTPUTS);
        return actuators[output].isLoose;
    }

    public int arm(char command) throws IllegalArgumentException {
        requireFit(isCommand(command));
        armedCommand = command;
        armedUntil = frames + FRAMES_ARMED;
        return armedUntil;
    }

    public int give(char command) throws IllegalArgumentException, UnsupportedOperationException {
        requireFit(isCommand(command));
        requireState(armedCommand == command && frames <= armedUntil);
        armedCommand = NO_COMMAND;
        if (command == 'm') {
            currentMode = 1 - currentMode;
            return currentMode;
        }
        return resetActuators();
    }

    public int line(int index, char what) throws IllegalArgumentException, NoSuchElementException {
        requireFit(what == 't' || what == 'c' || what == 'r');
        if (index < 0 || index >= log.countKept()) {
            throw new NoSuchElementException("no such line");
        }
        if (what == 't') {
            return log.timeOf(index);
        }
        return what == 'c' ? log.computerOf(index) : log.letterOf(index);
    }

    public float onShare() {
        return (float) countOn() / (float) COMPUTERS;
    }

    public double meanOutput() {
        int sum = 0;
        for (int i = 0; i < OUTPUTS; i++) {
            sum += outputs[i];
        }
        return (double) sum / (double) OUTPUTS;
    }

    public long checksum() {
        long sum = 7;
        for (int i = 0; i < OUTPUTS; i++) {
            sum = 31 * sum + outputs[i];
        }
        for (int i = 0; i < COMPUTERS; i++) {
            for (int j = 0; j < ALL_WORDS; j++) {
                sum = 31 * sum + computers[i].memory.seen(j);
            }
        }
        for (int i = 0; i < COMPUTERS; i++) {
            sum = 31 * sum + (computers[i].clockNow + 100 * computers[i].strikeCount);
        }
        return sum;
    }

    public boolean isTrue() {
        if (!hadFault && !hadFrameAllOff && !isPlain()) {
            return false;
        }
        for (int i = 0; i < COMPUTERS; i++) {
            if (computers[i].isRunning && computers[i].strikeCount >= STRIKES) {
                return false;
            }
            if (!computers[i].isRunning && !log.wasFull() && !log.tellsOff(i)) {
                return false;
            }
        }
        return true;
    }

    private static void requireIndex(int index, int size) {
        if (index < 0 || index >= size) {
            throw new IndexOutOfBoundsException("no such index");
        }
    }

    private static void requireFit(boolean fits) {
        if (!fits) {
            throw new IllegalArgumentException("an argument does not fit");
        }
    }

    private static void requireState(boolean allows) {
        if (!allows) {
            throw new UnsupportedOperationException("not as things stand");
        }
    }

    private static boolean isCommand(char command) {
        return command == 'm' || command == 'a';
    }

    private int countOn() {
        int count = 0;
        for (int i = 0; i < COMPUTERS; i++) {
            if (computers[i].isRunning) {
                count++;
            }
        }
        return count;
    }

    private int lowestOn() {
        for (int i = 0; i < COMPUTERS; i++) {
            if (computers[i].isRunning) {
                return i;
            }
        }
        return NONE;
    }

    private void shutOff(int computer, char reason) {
        computers[computer].isRunning = false;
        computers[computer].isTested = false;
        log.append(frames, computer, reason);
    }

    private void runSlot(int partition) {
        Program program = programs[partition];
        for (int i = 0; i < COMPUTERS; i++) {
            computers[i].begin();
        }
        plainComputer.begin();
        // Beats in which all are done change nothing, so they are left out.
        for (int beat = 0; beat < BEATS && isAnyLeft(program); beat++) {
            doInstructions(program, partition);
            vote();
            shutOffStruckOnes();
        }
        if (isOneOfThreeLeft(program)) {
            program.overrunCount++;
        }
    }

    private boolean isAnyLeft(Program program) {
        return plainComputer.hasLeft(program) || isOneOfThreeLeft(program);
    }

    private boolean isOneOfThreeLeft(Program program) {
        for (int i = 0; i < COMPUTERS; i++) {
            if (computers[i].isRunning && computers[i].hasLeft(program)) {
                return true;
            }
        }
        return false;
    }

    private void doInstructions(Program program, int partition) {
        for (int i = 0; i < COMPUTERS; i++) {
            if (computers[i].isRunning && !computers[i].doNext(program, WORDS * partition, sensors)) {
                shutOff(i, 'm');
            }
        }
        plainComputer.doNext(program, WORDS * partition, sensors);
        plainComputer.handTo(plainOutputs);
    }

    /** More than half of those that are on is two of three, both of two, or the only one. */
    private void vote() {
        int on = countOn();
        for (int i = 0; i < COMPUTERS; i++) {
            if (computers[i].isRunning) {
                if (2 * countAlike(computers[i]) > on) {
                    computers[i].handTo(outputs);
                } else {
                    computers[i].strikeCount++;
                }
            }
        }
    }

    private int countAlike(Computer computer) {
        int count = 0;
        for (int i = 0; i < COMPUTERS; i++) {
            if (computers[i].isRunning && computers[i].givesLike(computer)) {
                count++;
            }
        }
        return count;
    }

    private void shutOffStruckOnes() {
        for (int i = 0; i < COMPUTERS; i++) {
            if (computers[i].isRunning && computers[i].strikeCount >= STRIKES) {
                shutOff(i, 'v');
            }
        }
    }

    private void scrub() {
        int at = Math.floorMod(frames, ALL_WORDS);
        for (int i = 0; i < COMPUTERS; i++) {
            if (computers[i].isRunning && !computers[i].memory.mend(at)) {
                shutOff(i, 'm');
            }
        }
    }

    private void tickClocks() {
        for (int i = 0; i < COMPUTERS; i++) {
            computers[i].clockNow += computers[i].driftPerFrame;
        }
    }

    private void holdClocksTogether() {
        int first = middleClock(0, 1, 2);
        int second = middleClock(1, 0, 2);
        int third = middleClock(2, 0, 1);
        computers[0].clockNow = first;
        computers[1].clockNow = second;
        computers[2].clockNow = third;
    }

    private int middleClock(int own, int one, int two) {
        return Numbers.middle(computers[own].clockNow, computers[one].clockToldTo(own),
                computers[two].clockToldTo(own));
    }

    private int resetActuators() {
        int count = 0;
        for (int i = 0; i < OUTPUTS; i++) {
            if (actuators[i].isLoose) {
                actuators[i].isLoose = false;
                count++;
            }
        }
        return count;
    }

    private static final class Numbers {
        static int round(int value) {
            return (short) value;
        }

        static boolean isNumber(int value) {
            return isWithin(value, LEAST_NUMBER, MOST_NUMBER);
        }

        static boolean isWithin(int value, int least, int most) {
            return value >= least && value <= most;
        }

        static int middle(int one, int two, int three) {
            return Math.max(Math.min(one, two), Math.min(Math.max(one, two), three));
        }
    }

    /** The code of a partition, which all computers share. */
    private static final class Program {
        final char[] kinds = new char[INSTRUCTIONS];
        final int[] registers = new int[INSTRUCTIONS];
        final int[] ns = new int[INSTRUCTIONS];
        int size = 0;
        int overrunCount = 0;

        static boolean isInstruction(char kind, int register, int n) {
            if (!Numbers.isWithin(register, 0, REGISTERS - 1)) {
                return false;
            }
            switch (kind) {
                case 'l':
                    return Numbers.isNumber(n);
                case 'a':
                case 's':
                    return Numbers.isWithin(n, 0, REGISTERS - 1);
                case 'm':
                case 'r':
                    return Numbers.isWithin(n, 0, WORDS - 1);
                case 'i':
                    return Numbers.isWithin(n, 0, SENSORS - 1);
                case 'o':
                    return Numbers.isWithin(n, 0, OUTPUTS - 1);
                case 'j':
                    return Numbers.isWithin(n, 0, INSTRUCTIONS - 1);
                default:
                    return false;
            }
        }

        int append(char kind, int register, int n) {
            if (size < INSTRUCTIONS) {
                kinds[size] = kind;
                registers[size] = register;
                ns[size] = n;
                size++;
            }
            return size;
        }
    }

    /** The words of a computer, partition behind partition, as written and with the bits flipped since. */
    private static final class Memory {
        private final int[] written = new int[ALL_WORDS];
        private final int[] flips = new int[ALL_WORDS];
        int mendedBits = 0;

        int seen(int at) {
            return Numbers.round(written[at] ^ flips[at]);
        }

        int unflipped(int at) {
            return written[at];
        }

        void put(int at, int number) {
            written[at] = number;
            flips[at] = 0;
        }

        int turn(int at, int bit) {
            flips[at] ^= 1 << bit;
            return Integer.bitCount(flips[at]);
        }

        /** Tells whether the word can be read then. */
        boolean mend(int at) {
            int flipped = Integer.bitCount(flips[at]);
            if (flipped > 1) {
                return false;
            }
            flips[at] = 0;
            mendedBits += flipped;
            return true;
        }

        void becomeLike(Memory other) {
            for (int i = 0; i < ALL_WORDS; i++) {
                put(i, other.unflipped(i));
            }
        }
    }

    private static final class Computer {
        final Memory memory = new Memory();
        final int[] lies = new int[COMPUTERS];
        int clockNow = 0;
        int driftPerFrame = 0;
        int strikeCount = 0;
        int stuckRegister = NONE;
        boolean isRunning = true;
        boolean isTested = false;
        // One set is enough for all partitions, as each slot begins with registers of 0.
        private final int[] registers = new int[REGISTERS];
        private int stuckBit = 0;
        private boolean isStuckSet = false;
        private int next = 0;
        private int givenOutput = NONE;
        private int givenNumber = 0;

        boolean hasStuckBit() {
            return stuckRegister != NONE;
        }

        void letStick(int register, int bit, boolean isSet) {
            stuckRegister = register;
            stuckBit = bit;
            isStuckSet = isSet;
            isTested = false;
        }

        void resumeLike(Computer model) {
            memory.becomeLike(model.memory);
            strikeCount = 0;
            clockNow = model.clockNow;
            isRunning = true;
        }

        int clockToldTo(int other) {
            return clockNow + lies[other];
        }

        void begin() {
            next = 0;
            for (int i = 0; i < REGISTERS; i++) {
                change(i, 0);
            }
        }

        boolean hasLeft(Program program) {
            return next < program.size;
        }

        /** Tells whether the memory let it be done. */
        boolean doNext(Program program, int base, Sensor[] sensors) {
            givenOutput = NONE;
            if (!hasLeft(program)) {
                return true;
            }
            int at = next;
            if (program.kinds[at] == 'r' && !memory.mend(base + program.ns[at])) {
                return false;
            }
            next = at + 1;
            carryOut(program, at, base, sensors);
            return true;
        }

        private void carryOut(Program program, int at, int base, Sensor[] sensors) {
            int register = program.registers[at];
            int n = program.ns[at];
            switch (program.kinds[at]) {
                case 'l':
                    change(register, n);
                    break;
                case 'a':
                    change(register, registers[register] + registers[n]);
                    break;
                case 's':
                    change(register, registers[register] - registers[n]);
                    break;
                case 'm':
                    memory.put(base + n, registers[register]);
                    break;
                case 'r':
                    change(register, memory.unflipped(base + n));
                    break;
                case 'i':
                    change(register, sensors[n].agreedNumber);
                    break;
                case 'o':
                    givenOutput = n;
                    givenNumber = registers[register];
                    break;
                default:
                    if (registers[register] > 0) {
                        next = n;
                    }
                    break;
            }
        }

        private void change(int register, int value) {
            int changed = value;
            if (register == stuckRegister) {
                int mask = 1 << stuckBit;
                changed = isStuckSet ? value | mask : value & ~mask;
            }
            registers[register] = Numbers.round(changed);
        }

        boolean givesLike(Computer other) {
            if (givenOutput != other.givenOutput) {
                return false;
            }
            return givenOutput == NONE || givenNumber == other.givenNumber;
        }

        void handTo(int[] outputs) {
            if (givenOutput != NONE) {
                outputs[givenOutput] = givenNumber;
            }
        }
    }

    /** Of the three readings only the middle one is ever asked for. */
    private static final class Sensor {
        int middle = 0;
        int farthest = MOST_NUMBER;
        int agreedNumber = 0;
        private int framesFar = 0;

        void agree() {
            boolean isFar = Math.abs(middle - agreedNumber) > farthest;
            framesFar = isFar ? framesFar + 1 : 0;
            if (!isFar || framesFar >= FAR_FRAMES) {
                agreedNumber = middle;
                framesFar = 0;
            }
        }
    }

    /** Two copies of the words of a partition; the newest good one is never written over. */
    private static final class Copies {
        private final int[][] words = new int[2][WORDS];
        private final boolean[] isGood = new boolean[2];
        int newest = NONE;

        void spoil() {
            isGood[nextToWrite()] = false;
        }

        void keep(Memory memory, int base) {
            int target = nextToWrite();
            for (int i = 0; i < WORDS; i++) {
                words[target][i] = memory.unflipped(base + i);
            }
            isGood[target] = true;
            newest = target;
        }

        void restore(Memory memory, int base) {
            if (newest == NONE) {
                return;
            }
            for (int i = 0; i < WORDS; i++) {
                memory.put(base + i, words[newest][i]);
            }
        }

        int firstWord() {
            return newest == NONE ? 0 : words[newest][0];
        }

        int countGood() {
            return (isGood[0] ? 1 : 0) + (isGood[1] ? 1 : 0);
        }

        private int nextToWrite() {
            return newest == 0 ? 1 : 0;
        }
    }

    private static final class Actuator {
        final int[] faults = new int[CHANNELS];
        int place = 0;
        boolean isLoose = false;

        void move(int number) {
            int greatest = Math.max(faults[0], Math.max(faults[1], faults[2]));
            int least = Math.min(faults[0], Math.min(faults[1], faults[2]));
            if (greatest - least > MOST_SPREAD) {
                isLoose = true;
            }
            place = isLoose ? 0 : number + Numbers.middle(faults[0], faults[1], faults[2]);
        }
    }

    /** Rows that go round, so that the latest lines take the place of the oldest. */
    private static final class Log {
        private final int[] times = new int[LINES];
        private final int[] computers = new int[LINES];
        private final char[] letters = new char[LINES];
        private int total = 0;

        void append(int time, int computer, char letter) {
            int row = Math.floorMod(total, LINES);
            times[row] = time;
            computers[row] = computer;
            letters[row] = letter;
            total++;
        }

        int countKept() {
            return Math.min(total, LINES);
        }

        boolean wasFull() {
            return total >= LINES;
        }

        int timeOf(int index) {
            return times[rowOf(index)];
        }

        int computerOf(int index) {
            return computers[rowOf(index)];
        }

        int letterOf(int index) {
            return letters[rowOf(index)];
        }

        /** Tells whether the latest line of a computer is one of its being shut off. */
        boolean tellsOff(int computer) {
            int kept = countKept();
            for (int i = 0; i < kept; i++) {
                if (computerOf(i) == computer) {
                    return letterOf(i) != 'b';
                }
            }
            return false;
        }

        private int rowOf(int index) {
            return Math.floorMod(total - 1 - index, LINES);
        }
    }
}
