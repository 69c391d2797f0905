/** Tests of single sentences of the document, each under a name that its wrong answers are printed with. */
final class Sentences {
    static final int LOWEST = Integer.MIN_VALUE, HIGHEST = Integer.MAX_VALUE;
    static final int BAD = -1, FULL = -3, NONE = -4;

    private final Due due = new Due();
    private String sentence = "";

    interface Call {
        long of(CancelRows x);
    }

    void test(String name, Runnable test) {
        sentence = name;
        int before = due.asked();
        test.run();
        due.holds(name + ": asks something", due.asked() > before);
    }

    void due(String call, long got, long want) {
        due.due(sentence + ": " + call, got, want);
    }

    void holds(String what, boolean so) {
        due.holds(sentence + ": " + what, so);
    }

    void row(String call, CancelRows x, int r, int length, long number) {
        due(call + ", its length", x.length(r), length);
        due(call + ", its NUMBER", x.number(r), number);
    }

    /** The call is refused with this answer, and all that can be seen of the object is as without the call. */
    void refused(State state, String call, Call asked, long want) {
        CancelRows x = state.made();
        due(call + " of " + state, asked.of(x), want);
        String got = Shown.of(x);
        String kept = Shown.of(state.made());
        due(call + " of " + state + " changes " + kept + " to " + got, got.equals(kept) ? 0 : 1, 0);
    }

    /** Refused so in every state: before FULL and before all else that could fit. */
    void refusedAlways(String call, Call asked, long want) {
        for (State state : State.values()) {
            refused(state, call, asked, want);
        }
    }

    void end() {
        due.end();
    }
}
