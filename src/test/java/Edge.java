import java.util.IdentityHashMap;
import java.util.List;
import java.util.Map;
import java.util.function.Supplier;

/** Calls at a boundary: one that is taken, or one that is refused, with what status() tells of it. */
final class Edge {
    static final int LEAST = Integer.MIN_VALUE;
    static final int GREATEST = Integer.MAX_VALUE;

    /** A call on an object. */
    interface Call {
        long on(TruthWalk x);
    }

    /** A call on an object with a number that is tried. */
    interface Tried {
        long on(TruthWalk x, int number);
    }

    private static final int MOST_CALLS = 512;
    private static final Map<TruthWalk, Integer> CALLS = new IdentityHashMap<>();

    private Edge() {
    }

    private static int[] refusals(TruthWalk x) {
        Due.holds("no more calls than are promised", CALLS.merge(x, 9, Integer::sum) <= MOST_CALLS);
        int[] told = new int[8];
        for (int i = 0; i < told.length; i++) {
            told[i] = x.status(-2 - i);
        }
        return told;
    }

    /** The call is taken: its answer is as due, and status() tells of no refusal. */
    static void within(String name, TruthWalk x, Call call, long want) {
        int[] before = refusals(x);
        Due.is(name, call.on(x), want);
        int[] after = refusals(x);
        for (int i = 0; i < after.length; i++) {
            Due.is(name + ", then status(" + (-2 - i) + ")", after[i], before[i]);
        }
    }

    /** The call is refused: status() tells of it, and of none else. */
    static void beyond(String name, TruthWalk x, Call call, int by) {
        refused(name, x, call, by, by);
    }

    /** The call is refused by an answer of 0: status() tells of it, and of none else. */
    static void beyondWithZero(String name, TruthWalk x, Call call, int by) {
        refused(name, x, call, by, 0);
    }

    private static void refused(String name, TruthWalk x, Call call, int by, long want) {
        int[] before = refusals(x);
        Due.is(name, call.on(x), want);
        int[] after = refusals(x);
        for (int i = 0; i < after.length; i++) {
            Due.is(name + ", then status(" + (-2 - i) + ")", after[i] - before[i], by == -2 - i ? 1 : 0);
        }
    }

    /** The call is refused on an object so made, and nothing but status() is changed by that. */
    static void changesNothing(String name, Supplier<TruthWalk> made, Call call, int by) {
        againstItsLike(name, made, call, by, by);
    }

    /** Likewise, of a call that answers 0 where it is refused. */
    static void changesNothingWithZero(String name, Supplier<TruthWalk> made, Call call, int by) {
        againstItsLike(name, made, call, by, 0);
    }

    private static void againstItsLike(String name, Supplier<TruthWalk> made, Call call, int by, long want) {
        TruthWalk x = made.get();
        refused(name, x, call, by, want);
        List<Long> got = Probe.of(x);
        List<Long> due = Probe.of(made.get());
        Due.holds(name + " changes nothing: it is " + got + ", due is " + due, got.equals(due));
    }
}
