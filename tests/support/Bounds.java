/** Calls at the bounds of a number, calls beyond them, and what stands behind a call that may change nothing. */
final class Bounds {
    private static final int BAD = -1;

    interface Made {
        StileAccounts one();
    }

    interface Call {
        int on(StileAccounts x);
    }

    interface Asked {
        int of(StileAccounts x, int number);
    }

    private Bounds() {
    }

    /** Of a number first to last are told: neither of these is BAD, and all beyond them are and change nothing. */
    static void told(String call, Made made, int first, int last, Asked asked) {
        Due.holds(call + " by the first number, " + first, asked.of(made.one(), first) != BAD);
        Due.holds(call + " by the last number, " + last, asked.of(made.one(), last) != BAD);
        beyond(call, made, first, last, asked);
    }

    /** All numbers ahead of first and behind last are BAD; those that a narrower number would hold as told ones too. */
    static void beyond(String call, Made made, int first, int last, Asked asked) {
        int[] none = {first - 1, last + 1, first - 256, last + 256, first - 65536, last + 65536, Integer.MIN_VALUE, Integer.MAX_VALUE};
        for (int number : none) {
            refused(call + " by " + number, made, BAD, x -> asked.of(x, number));
        }
    }

    /** The call has this answer, the second time too, and nothing has changed behind it. */
    static void refused(String call, Made made, int due, Call asked) {
        StileAccounts x = made.one();
        Due.is(call, asked.on(x), due);
        Due.is(call + ", again", asked.on(x), due);
        unchanged(call, x, made.one());
    }

    /** The call has an answer, the same the second time, and nothing has changed behind it. */
    static void onlyTells(String call, Made made, Call asked) {
        StileAccounts x = made.one();
        int answer = asked.on(x);
        Due.is(call + ", again", asked.on(x), answer);
        unchanged(call, x, made.one());
    }

    private static void unchanged(String call, StileAccounts x, StileAccounts twin) {
        String due = Fields.wholly(twin);
        String got = Fields.wholly(x);
        Due.holds(call + " changes nothing: due is\n  " + due + "\n  but it is\n  " + got, got.equals(due));
    }
}
