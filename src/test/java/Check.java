/** What the tests share: comparing, asking for refusals, and short ways to set a Triplane up. */
final class Check {
    private static int wrong = 0;
    private static String about = "";

    private Check() {
    }

    static void same(String what, long want, long got) {
        if (want != got) {
            report(what + ": due is " + want + ", answered " + got);
        }
    }

    static void same(String what, boolean want, boolean got) {
        if (want != got) {
            report(what + ": due is " + want + ", answered " + got);
        }
    }

    static void same(String what, String want, String got) {
        if (!want.equals(got)) {
            report(what + ": due is " + want + ", answered " + got);
        }
    }

    static void sameReal(String what, double want, double got) {
        if (want != got) {
            report(what + ": due is " + want + ", answered " + got);
        }
    }

    /** The call throws exactly this, and nothing that can be seen has changed. */
    static void refuses(String what, Class<? extends RuntimeException> want, Triplane x, Runnable call) {
        String before = seen(x);
        String got = "nothing";
        try {
            call.run();
        } catch (RuntimeException e) {
            got = e.getClass().getName();
        }
        same(what + " throws", want.getName(), got);
        same(what + " leaves all as it is", before, seen(x));
    }

    /** Tells of which words of the document the next comparisons are; they stand ahead of what is reported. */
    static void about(String words) {
        about = "[" + words + "] ";
    }

    static void report(String text) {
        wrong++;
        System.out.println(about + text);
    }

    static void end() {
        if (wrong != 0) {
            System.out.println(wrong + " answers are not as due");
            System.exit(1);
        }
    }

    /** What a Triplane tells without being changed, in some 40 calls; the checksum tells of words and clocks. */
    static String seen(Triplane x) {
        StringBuilder all = new StringBuilder();
        all.append(x.time()).append(' ').append(x.mode()).append(' ').append(x.checksum());
        all.append(' ').append(x.isPlain()).append(' ').append(x.isTrue());
        for (int i = 0; i < 4; i++) {
            all.append(" out ").append(x.plain(i)).append(' ').append(x.agreed(i));
            all.append(' ').append(x.position(i)).append(' ').append(x.hasLetGo(i));
        }
        for (int i = 0; i < 3; i++) {
            all.append(" of ").append(x.isOn(i)).append(' ').append(x.strikes(i));
            all.append(' ').append(x.mended(i)).append(' ').append(x.overruns(i));
        }
        return all.append(" log ").append(latestLine(x)).toString();
    }

    private static String latestLine(Triplane x) {
        try {
            return x.line(0, 't') + ":" + x.line(0, 'c') + (char) x.line(0, 'r');
        } catch (java.util.NoSuchElementException e) {
            return "none";
        }
    }

    /** The log, the latest line first, as "4:1m 3:0h". */
    static String lines(Triplane x) {
        StringBuilder all = new StringBuilder();
        for (int i = 0; i < 40; i++) {
            try {
                int time = x.line(i, 't');
                all.append(i == 0 ? "" : " ").append(time).append(':');
                all.append(x.line(i, 'c')).append((char) x.line(i, 'r'));
            } catch (java.util.NoSuchElementException e) {
                return all.toString();
            }
        }
        return all.append(" and more").toString();
    }

    /** Puts instructions, each as "l0 5", behind the ones of a partition. */
    static void write(Triplane x, int partition, String... instructions) {
        for (String one : instructions) {
            x.code(partition, one.charAt(0), one.charAt(1) - '0', Integer.parseInt(one.substring(3)));
        }
    }

    /** A new object that runs these instructions as partition 0 in the slot 0 of the mode 0. */
    static Triplane running(String... instructions) {
        Triplane x = new Triplane();
        write(x, 0, instructions);
        x.slot(0, 0, 0);
        return x;
    }

    static void frames(Triplane x, int count) {
        for (int i = 0; i < count; i++) {
            x.frame();
        }
    }
}
