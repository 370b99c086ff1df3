import java.util.ArrayList;
import java.util.HashMap;
import java.util.HashSet;
import java.util.List;
import java.util.Map;
import java.util.NoSuchElementException;
import java.util.Set;

/**
 * The document once more, written apart from Triplane with the whole Java library and no thought of cost, so that a
 * slip in one of the two shows as a difference. Its methods bear the names of the face.
 */
final class Model {
    record Instruction(char kind, int register, int n) {
    }

    record Line(int time, int computer, char letter) {
    }

    record Given(int output, int number) {
    }

    static final class Word {
        int number = 0;
        Set<Integer> flipped = new HashSet<>();

        void write(int value) {
            number = value;
            flipped.clear();
        }

        int clean() {
            int value = number & 0xFFFF;
            for (int bit : flipped) {
                value ^= 1 << bit;
            }
            return around(value);
        }
    }

    static final class Machine {
        boolean on = true;
        boolean passed = false;
        int strikes = 0;
        int mended = 0;
        int clock = 0;
        int drift = 0;
        int[] lies = new int[3];
        Integer stuckRegister = null;
        int stuckBit = 0;
        boolean stuckSet = false;
        Word[][] words = new Word[3][6];
        int[] registers = new int[4];
        int at = 0;

        Machine() {
            for (Word[] row : words) {
                for (int i = 0; i < 6; i++) {
                    row[i] = new Word();
                }
            }
        }

        void set(int register, long value) {
            long bits = value & 0xFFFF;
            if (stuckRegister != null && stuckRegister == register) {
                long bit = 1L << stuckBit;
                if (stuckSet && (bits & bit) == 0) {
                    bits += bit;
                } else if (!stuckSet && (bits & bit) != 0) {
                    bits -= bit;
                }
            }
            registers[register] = around((int) bits);
        }
    }

    private final Machine[] machines = {new Machine(), new Machine(), new Machine()};
    private final Machine plain = new Machine();
    private final List<List<Instruction>> code = List.of(new ArrayList<>(), new ArrayList<>(), new ArrayList<>());
    private final int[] overruns = new int[3];
    private final int[][] slots = {{-1, -1, -1}, {-1, -1, -1}};
    private final int[] outputs = new int[4];
    private final int[] plains = new int[4];
    private final int[][] readings = new int[4][3];
    private final int[] limits = {32767, 32767, 32767, 32767};
    private final int[] agreed = new int[4];
    /** What each frame did with a sensor: 'n' near, 'f' far and kept, 't' far and taken. */
    private final StringBuilder[] history = {new StringBuilder(), new StringBuilder(), new StringBuilder(),
        new StringBuilder()};
    private final int[][][] copies = new int[3][2][];
    private final int[] newest = {-1, -1, -1};
    private final int[][] faults = new int[4][3];
    private final int[] positions = new int[4];
    private final boolean[] letGo = new boolean[4];
    private final List<Line> log = new ArrayList<>();
    private int time = 0;
    private int mode = 0;
    private Character armed = null;
    private int armedAt = 0;

    static int around(int value) {
        return Math.floorMod(value + 32768, 65536) - 32768;
    }

    private static void index(int... valuesAndSizes) {
        for (int i = 0; i < valuesAndSizes.length; i += 2) {
            if (valuesAndSizes[i] < 0 || valuesAndSizes[i] >= valuesAndSizes[i + 1]) {
                throw new IndexOutOfBoundsException();
            }
        }
    }

    private static void range(int value, int least, int most) {
        if (value < least || value > most) {
            throw new IllegalArgumentException();
        }
    }

    private static void allow(boolean isAllowed) {
        if (!isAllowed) {
            throw new UnsupportedOperationException();
        }
    }

    private static int sorted(int which, int... values) {
        int[] row = values.clone();
        java.util.Arrays.sort(row);
        return row[which];
    }

    private List<Integer> on() {
        List<Integer> list = new ArrayList<>();
        for (int i = 0; i < 3; i++) {
            if (machines[i].on) {
                list.add(i);
            }
        }
        return list;
    }

    private void off(int computer, char letter) {
        machines[computer].on = false;
        machines[computer].passed = false;
        log.add(new Line(time, computer, letter));
    }

    public int code(int partition, char kind, int register, int n) {
        index(partition, 3);
        Map<Character, Integer> most = new HashMap<>(Map.of('l', 32767, 'a', 3, 's', 3, 'i', 3, 'o', 3));
        most.putAll(Map.of('m', 5, 'r', 5, 'j', 9));
        if (!most.containsKey(kind)) {
            throw new IllegalArgumentException();
        }
        range(register, 0, 3);
        range(n, kind == 'l' ? -32768 : 0, most.get(kind));
        if (code.get(partition).size() == 10) {
            throw new IllegalStateException();
        }
        code.get(partition).add(new Instruction(kind, register, n));
        return code.get(partition).size();
    }

    public int clear(int partition) {
        index(partition, 3);
        int before = code.get(partition).size();
        code.get(partition).clear();
        return before;
    }

    public int slot(int mode, int slot, int partition) {
        index(mode, 2, slot, 3, partition + 1, 4);
        int before = slots[mode][slot];
        slots[mode][slot] = partition;
        return before;
    }

    public int frame() {
        time++;
        for (int i = 0; i < 4; i++) {
            agree(i);
        }
        for (int slot = 0; slot < 3; slot++) {
            if (slots[mode][slot] >= 0) {
                run(slots[mode][slot]);
            }
        }
        int number = time % 18;
        for (int i : on()) {
            if (!mend(machines[i], number / 6, number % 6)) {
                off(i, 'm');
            }
        }
        clocks();
        for (int i = 0; i < 4; i++) {
            int[] at = {outputs[i] + faults[i][0], outputs[i] + faults[i][1], outputs[i] + faults[i][2]};
            letGo[i] = letGo[i] || sorted(2, at) > sorted(0, at) + 100;
            positions[i] = letGo[i] ? 0 : sorted(1, at);
        }
        return on().size();
    }

    private void agree(int sensor) {
        int middle = sorted(1, readings[sensor]);
        String past = history[sensor].toString();
        boolean isNear = middle <= agreed[sensor] + limits[sensor] && middle >= agreed[sensor] - limits[sensor];
        boolean isLongFar = !isNear && past.endsWith("ff");
        if (isNear || isLongFar) {
            agreed[sensor] = middle;
        }
        history[sensor].append(isNear ? 'n' : isLongFar ? 't' : 'f');
    }

    private void clocks() {
        for (Machine one : machines) {
            one.clock += one.drift;
        }
        if (on().size() == 3) {
            int[] next = new int[3];
            for (int i = 0; i < 3; i++) {
                int[] told = new int[3];
                for (int j = 0; j < 3; j++) {
                    told[j] = machines[j].clock + (i == j ? 0 : machines[j].lies[i]);
                }
                next[i] = sorted(1, told);
            }
            for (int i = 0; i < 3; i++) {
                machines[i].clock = next[i];
            }
        }
    }

    private boolean mend(Machine machine, int partition, int word) {
        Word it = machine.words[partition][word];
        if (it.flipped.size() == 1) {
            it.write(it.clean());
            machine.mended++;
        }
        return it.flipped.isEmpty();
    }

    private void run(int partition) {
        for (Machine one : List.of(machines[0], machines[1], machines[2], plain)) {
            one.at = 0;
            for (int i = 0; i < 4; i++) {
                one.set(i, 0);
            }
        }
        int size = code.get(partition).size();
        for (int beat = 1; beat <= 30; beat++) {
            Map<Integer, Given> given = new HashMap<>();
            for (int i : on()) {
                given.put(i, step(machines[i], i, partition));
            }
            Given ofPlain = step(plain, -1, partition);
            if (ofPlain != null) {
                plains[ofPlain.output()] = ofPlain.number();
            }
            vote(given);
            for (int i : on()) {
                if (machines[i].strikes == 3) {
                    off(i, 'v');
                }
            }
        }
        boolean isOver = false;
        for (int i : on()) {
            isOver |= machines[i].at < size;
        }
        overruns[partition] += isOver ? 1 : 0;
    }

    private void vote(Map<Integer, Given> given) {
        List<Integer> voters = on();
        if (voters.isEmpty()) {
            return;
        }
        Given a = given.get(voters.get(0));
        Given b = given.get(voters.get(voters.size() > 1 ? 1 : 0));
        Given c = given.get(voters.get(voters.size() - 1));
        Given taken = null;
        boolean isOne = true;
        if (java.util.Objects.equals(a, b)) {
            taken = a;
        } else if (voters.size() == 3 && java.util.Objects.equals(a, c)) {
            taken = a;
        } else if (voters.size() == 3 && java.util.Objects.equals(b, c)) {
            taken = b;
        } else {
            isOne = false;
        }
        for (int i : voters) {
            if (!isOne || !java.util.Objects.equals(given.get(i), taken)) {
                machines[i].strikes++;
            }
        }
        if (taken != null) {
            outputs[taken.output()] = taken.number();
        }
    }

    private Given step(Machine machine, int computer, int partition) {
        if (machine.at >= code.get(partition).size()) {
            return null;
        }
        Instruction it = code.get(partition).get(machine.at);
        if (it.kind() == 'r' && !mend(machine, partition, it.n())) {
            off(computer, 'm');
            return null;
        }
        machine.at++;
        int own = machine.registers[it.register()];
        switch (it.kind()) {
            case 'l' -> machine.set(it.register(), it.n());
            case 'a' -> machine.set(it.register(), (long) own + machine.registers[it.n()]);
            case 's' -> machine.set(it.register(), (long) own - machine.registers[it.n()]);
            case 'm' -> machine.words[partition][it.n()].write(own);
            case 'r' -> machine.set(it.register(), machine.words[partition][it.n()].number);
            case 'i' -> machine.set(it.register(), agreed[it.n()]);
            case 'j' -> machine.at = own > 0 ? it.n() : machine.at;
            default -> {
                return new Given(it.n(), own);
            }
        }
        return null;
    }

    public int time() {
        return time;
    }

    public int mode() {
        return mode;
    }

    public int output(int output) {
        index(output, 4);
        return outputs[output];
    }

    public int plain(int output) {
        index(output, 4);
        return plains[output];
    }

    public boolean isPlain() {
        return java.util.Arrays.equals(outputs, plains);
    }

    public int word(int computer, int partition, int word) {
        index(computer, 3, partition, 3, word, 6);
        return machines[computer].words[partition][word].number;
    }

    public int flip(int computer, int partition, int word, int bit) {
        index(computer, 3, partition, 3, word, 6, bit, 16);
        Word it = machines[computer].words[partition][word];
        it.number = around((it.number & 0xFFFF) ^ (1 << bit));
        if (!it.flipped.remove(bit)) {
            it.flipped.add(bit);
        }
        return it.flipped.size();
    }

    public boolean stick(int computer, int register, int bit, boolean isSet) {
        index(computer, 3, register, 4, bit, 16);
        Machine it = machines[computer];
        boolean before = it.stuckRegister != null;
        it.stuckRegister = register;
        it.stuckBit = bit;
        it.stuckSet = isSet;
        it.passed = false;
        return before;
    }

    public boolean fix(int computer) {
        index(computer, 3);
        boolean before = machines[computer].stuckRegister != null;
        machines[computer].stuckRegister = null;
        return before;
    }

    public boolean isOn(int computer) {
        index(computer, 3);
        return machines[computer].on;
    }

    public int strikes(int computer) {
        index(computer, 3);
        return machines[computer].strikes;
    }

    public int shut(int computer) {
        index(computer, 3);
        allow(machines[computer].on);
        off(computer, 'h');
        return on().size();
    }

    public boolean test(int computer) {
        index(computer, 3);
        allow(!machines[computer].on);
        machines[computer].passed |= machines[computer].stuckRegister == null;
        return machines[computer].stuckRegister == null;
    }

    public int back(int computer) {
        index(computer, 3);
        Machine it = machines[computer];
        allow(!it.on && it.passed && !on().isEmpty());
        Machine like = machines[on().get(0)];
        for (int i = 0; i < 18; i++) {
            it.words[i / 6][i % 6].write(like.words[i / 6][i % 6].clean());
        }
        it.strikes = 0;
        it.clock = like.clock;
        it.on = true;
        log.add(new Line(time, computer, 'b'));
        return on().size();
    }

    public int mended(int computer) {
        index(computer, 3);
        return machines[computer].mended;
    }

    public int overruns(int partition) {
        index(partition, 3);
        return overruns[partition];
    }

    public int read(int sensor, int one, int two, int three) {
        index(sensor, 4);
        range(one, -32768, 32767);
        range(two, -32768, 32767);
        range(three, -32768, 32767);
        readings[sensor] = new int[] {one, two, three};
        return sorted(1, one, two, three);
    }

    public int limit(int sensor, int limit) {
        index(sensor, 4);
        range(limit, 0, 32767);
        int before = limits[sensor];
        limits[sensor] = limit;
        return before;
    }

    public int agreed(int sensor) {
        index(sensor, 4);
        return agreed[sensor];
    }

    public int drift(int computer, int drift) {
        index(computer, 3);
        range(drift, -9, 9);
        int before = machines[computer].drift;
        machines[computer].drift = drift;
        return before;
    }

    public int lie(int computer, int other, int by) {
        index(computer, 3, other, 3);
        range(by, -999, 999);
        range(computer == other ? 1 : 0, 0, 0);
        int before = machines[computer].lies[other];
        machines[computer].lies[other] = by;
        return before;
    }

    public int clock(int computer) {
        index(computer, 3);
        return machines[computer].clock;
    }

    public int save(int partition, boolean isCut) {
        index(partition, 3);
        allow(!on().isEmpty());
        int which = newest[partition] == 0 ? 1 : 0;
        copies[partition][which] = null;
        if (!isCut) {
            copies[partition][which] = new int[6];
            for (int i = 0; i < 6; i++) {
                copies[partition][which][i] = machines[on().get(0)].words[partition][i].clean();
            }
            newest[partition] = which;
        }
        return (copies[partition][0] == null ? 0 : 1) + (copies[partition][1] == null ? 0 : 1);
    }

    public int load(int partition) {
        index(partition, 3);
        if (newest[partition] < 0) {
            throw new NoSuchElementException();
        }
        int[] copy = copies[partition][newest[partition]];
        for (int i = 0; i < 6; i++) {
            for (int computer : on()) {
                machines[computer].words[partition][i].write(copy[i]);
            }
            plain.words[partition][i].write(copy[i]);
        }
        return copy[0];
    }

    public int fault(int output, int channel, int by) {
        index(output, 4, channel, 3);
        range(by, -999, 999);
        int before = faults[output][channel];
        faults[output][channel] = by;
        return before;
    }

    public int position(int output) {
        index(output, 4);
        return positions[output];
    }

    public boolean hasLetGo(int output) {
        index(output, 4);
        return letGo[output];
    }

    public int arm(char command) {
        range("ma".indexOf(command), 0, 1);
        armed = command;
        armedAt = time;
        return time + 3;
    }

    public int give(char command) {
        range("ma".indexOf(command), 0, 1);
        allow(armed != null && armed == command && time - armedAt <= 3);
        armed = null;
        if (command == 'm') {
            mode = mode == 0 ? 1 : 0;
            return mode;
        }
        int count = 0;
        for (int i = 0; i < 4; i++) {
            count += letGo[i] ? 1 : 0;
            letGo[i] = false;
        }
        return count;
    }

    public int line(int index, char what) {
        range("tcr".indexOf(what), 0, 2);
        if (index < 0 || index >= Math.min(30, log.size())) {
            throw new NoSuchElementException();
        }
        Line line = log.get(log.size() - 1 - index);
        return what == 't' ? line.time() : what == 'c' ? line.computer() : line.letter();
    }

    public float onShare() {
        return (float) on().size() / 3f;
    }

    public double meanOutput() {
        return (outputs[0] + outputs[1] + outputs[2] + outputs[3]) / 4.0;
    }

    public long checksum() {
        List<Integer> all = new ArrayList<>();
        for (int output : outputs) {
            all.add(output);
        }
        for (int i = 0; i < 54; i++) {
            all.add(machines[i / 18].words[i / 6 % 3][i % 6].number);
        }
        for (Machine one : machines) {
            all.add(one.clock + 100 * one.strikes);
        }
        long sum = 7;
        for (int one : all) {
            sum = sum * 31 + one;
        }
        return sum;
    }

    public boolean isTrue() {
        return true;
    }
}
