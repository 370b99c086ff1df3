import java.util.function.Supplier;

/**
 * Draws out of a Triplane what it holds, also what no method tells: two that hold the same answer the same, and hardly
 * others. It takes fewer than 400 calls.
 */
final class Probe {
    private final StringBuilder answers = new StringBuilder();
    private final Triplane x;

    private Probe(Triplane x) {
        this.x = x;
    }

    static String of(Triplane x) {
        Probe probe = new Probe(x);
        probe.see();
        for (int i = 0; i < 3; i++) {
            x.frame();
            probe.see();
        }
        probe.drawCommands();
        probe.drawComputers();
        probe.drawCopies();
        probe.drawSettings();
        probe.drawFlips();
        probe.see();
        return probe.answers.toString();
    }

    private void see() {
        answers.append(Check.seen(x)).append('\n');
    }

    private void ask(String what, Supplier<Object> call) {
        answers.append(what).append(' ');
        try {
            answers.append(call.get()).append('\n');
        } catch (RuntimeException e) {
            answers.append(e.getClass().getName()).append('\n');
        }
    }

    private void drawCommands() {
        ask("give m", () -> x.give('m'));
        ask("give a", () -> x.give('a'));
        x.frame();
        see();
    }

    private void drawComputers() {
        for (int i = 0; i < 3; i++) {
            int computer = i;
            ask("back", () -> x.back(computer));
            ask("fix", () -> x.fix(computer));
        }
    }

    private void drawCopies() {
        for (int i = 0; i < 3; i++) {
            int partition = i;
            ask("cut", () -> x.save(partition, true));
            ask("load", () -> x.load(partition));
        }
    }

    private void drawSettings() {
        for (int i = 0; i < 4; i++) {
            int at = i;
            ask("limit", () -> x.limit(at, 0));
            for (int j = 0; j < 3; j++) {
                int channel = j;
                ask("fault", () -> x.fault(at, channel, 0));
            }
        }
        for (int i = 0; i < 6; i++) {
            int one = i / 2;
            int other = (one + 1 + i % 2) % 3;
            int slot = i;
            ask("lie", () -> x.lie(one, other, 0));
            ask("slot", () -> x.slot(slot / 3, slot % 3, -1));
        }
        for (int i = 0; i < 3; i++) {
            int at = i;
            ask("drift", () -> x.drift(at, 0));
            ask("clear", () -> x.clear(at));
        }
    }

    private void drawFlips() {
        for (int i = 0; i < 54; i++) {
            int at = i;
            ask("flip", () -> x.flip(at / 18, at / 6 % 3, at % 6, 0));
        }
    }
}
