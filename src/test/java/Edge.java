/**
 * What the edge tests share. Each case names words of the sentence that it holds: they stand ahead of what is reported,
 * and DocumentTest looks them up in the document.
 */
final class Edge {
    interface State {
        Triplane make();
    }

    interface Call {
        Object on(Triplane x);
    }

    interface CallWith {
        Object on(Triplane x, int value);
    }

    private Edge() {
    }

    /** The words stand in a sentence ahead of the promises. */
    static void term(String words) {
        Check.about(words);
    }

    static void promise(int number, String words) {
        Check.about("Promise " + number + ": " + words);
    }

    static void answers(String what, Object want, State state, Call call) {
        Check.same(what, String.valueOf(want), answer(state.make(), call));
    }

    static void accepts(String what, State state, Call call) {
        String got = answer(state.make(), call);
        Check.same(what + " is refused by " + got, false, got.startsWith("java."));
    }

    /** The call throws exactly this, and all that is called behind it answers as if it had not been called. */
    static void refuses(String what, Class<? extends RuntimeException> want, State state, Call call) {
        Triplane x = state.make();
        Check.same(what + " throws", want.getName(), answer(x, call));
        Check.same(what + " changes nothing", Probe.of(state.make()), Probe.of(x));
    }

    /** The same of a call for each kind of state. */
    static void refusesAlways(String what, Class<? extends RuntimeException> want, Call call) {
        refuses(what + " of a new one", want, Triplane::new, call);
        refuses(what + " of a busy one", want, States::busy, call);
        refuses(what + " of a later one", want, States::later, call);
        refuses(what + " of one that is off", want, States::allOff, call);
    }

    /** All of the range is taken where the state allows it; what is below or above is refused in all states. */
    static void range(int promise, String words, int least, int most, Class<? extends RuntimeException> refusal,
            State state, CallWith call) {
        promise(promise, words);
        boolean isShort = most - least < 20;
        for (int value = least; value <= (isShort ? most : least + 1); value++) {
            int taken = value;
            accepts("the value " + taken, state, x -> call.on(x, taken));
        }
        accepts("the value " + (most - 1), state, x -> call.on(x, most - 1));
        accepts("the value " + most, state, x -> call.on(x, most));
        for (int wrong : new int[] {least - 1, most + 1, Integer.MIN_VALUE, Integer.MAX_VALUE}) {
            refusesAlways("the value " + wrong, refusal, x -> call.on(x, wrong));
        }
    }

    static boolean isRefused(Triplane x, Call call) {
        return answer(x, call).startsWith("java.");
    }

    private static String answer(Triplane x, Call call) {
        try {
            return String.valueOf(call.on(x));
        } catch (RuntimeException e) {
            return e.getClass().getName();
        }
    }
}
