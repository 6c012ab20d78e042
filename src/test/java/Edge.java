import java.util.Arrays;

/** A state, made anew for every call that is tried on it, and what calls answer or refuse there. */
final class Edge {
    /** Makes the same state each time. */
    interface State {
        DeedProtocol make();
    }

    /** A call on a given object, whose answer is a number (a boolean counts 1 or 0). */
    interface Act {
        long on(DeedProtocol x);
    }

    private final State state;
    private long[] asItWas = null;

    Edge(State state) {
        this.state = state;
    }

    /** The state behind some calls more, none of which is refused. */
    Edge after(Act... acts) {
        return new Edge(() -> {
            DeedProtocol x = state.make();
            for (Act act : acts) {
                act.on(x);
            }
            return x;
        });
    }

    /** The last one of the calls gives the answer that is due; none ahead of it is refused. */
    void answers(String what, long due, Act... acts) {
        DeedProtocol x = state.make();
        for (int i = 0; i < acts.length - 1; i++) {
            acts[i].on(x);
        }
        Act last = acts[acts.length - 1];
        Check.equal(what, Check.outcome(() -> last.on(x)), due);
    }

    /** The call is refused with this very exception, and nothing that can be found out later is changed. */
    void refuses(String what, Class<?> due, Act act) {
        DeedProtocol x = state.make();
        Check.refuses(what, due, () -> act.on(x));
        if (asItWas == null) {
            asItWas = Trace.of(state, null);
        }
        if (!Arrays.equals(asItWas, Trace.of(state, act))) {
            Check.report(what + " was refused, but changed something");
        }
    }

    /** The call that takes a number refuses each of these. */
    void refusesEach(String what, Class<?> due, NumberAct act, int... numbers) {
        for (int number : numbers) {
            refuses(what + " " + number, due, x -> act.on(x, number));
        }
    }

    /** A call with a number of which many are tried. */
    interface NumberAct {
        long on(DeedProtocol x, int number);
    }

    static long bit(boolean answer) {
        return answer ? 1 : 0;
    }
}
