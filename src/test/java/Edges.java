/**
 * Asks for the edges of calls on objects that are all made alike: what is taken last and what is refused
 * first. Each question has an object of its own, and a twin that isn't asked shows what has changed.
 */
final class Edges {
    interface Making {
        SeenLand make();
    }

    interface Act {
        int on(SeenLand x);
    }

    interface ActWith {
        int on(SeenLand x, int v);
    }

    private final Due due;
    private final Making making;

    Edges(Due due, Making making) {
        this.due = due;
        this.making = making;
    }

    /** The same questions on objects that are made otherwise. */
    Edges on(Making other) {
        return new Edges(due, other);
    }

    void answers(String call, int want, Act act) {
        due.is(call, act.on(making.make()), want);
    }

    /** A finding: just its own count is one more, and nothing else has changed. */
    void refuses(String call, int finding, Act act) {
        SeenLand asked = making.make();
        SeenLand twin = making.make();
        due.is(call, act.on(asked), finding);
        due.is("status(-1) behind " + call, asked.status(-1), twin.status(-1) + 1);
        for (int which = 0; which <= 6; which++) {
            int more = which == Due.BEYOND - finding ? 1 : 0;
            due.is("status(" + which + ") behind " + call, asked.status(which), twin.status(which) + more);
        }
        due.holds(call + " changes nothing but status()", Whole.of(asked).equals(Whole.of(twin)));
    }

    /** An answer that leaves all as it was, status() too. */
    void tells(String call, int want, Act act) {
        SeenLand asked = making.make();
        SeenLand twin = making.make();
        due.is(call, act.on(asked), want);
        due.is("status(-1) behind " + call, asked.status(-1), twin.status(-1));
        due.holds(call + " changes nothing", Whole.of(asked).equals(Whole.of(twin)));
    }

    /**
     * An argument (the # of a call) that may be from low to high: both are taken, with the answers told,
     * and those next to them and at the ends of int are refused.
     */
    void ends(String call, int low, int high, ActWith act, int atLow, int atHigh) {
        answers(named(call, low), atLow, x -> act.on(x, low));
        answers(named(call, high), atHigh, x -> act.on(x, high));
        refusesEach(call, Due.BEYOND, act, low - 1, high + 1, Integer.MIN_VALUE, Integer.MAX_VALUE);
    }

    void refusesEach(String call, int finding, ActWith act, int... values) {
        for (int v : values) {
            refuses(named(call, v), finding, x -> act.on(x, v));
        }
    }

    private static String named(String call, int v) {
        return call.replace("#", Integer.toString(v));
    }
}
