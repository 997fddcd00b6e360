import java.util.function.IntToLongFunction;

/** Asks a call with the last numbers that are taken and the first that are refused, on both sides, and the ends of int. */
final class Edges {
    private static final int LEAST_INT = Integer.MIN_VALUE;
    private static final int MOST_INT = Integer.MAX_VALUE;

    private final Due due;

    Edges(Due due) {
        this.due = due;
    }

    /** What is taken has the answer that 'taken' tells, what is refused the one answer. */
    void of(String what, int least, int most, IntToLongFunction call, IntToLongFunction taken, long refused) {
        for (int v : new int[] {least, most, least + (most - least) / 2}) {
            due.is(what + " takes " + v, call.applyAsLong(v), taken.applyAsLong(v));
        }
        outside(what, least, most, call, refused);
    }

    void outside(String what, int least, int most, IntToLongFunction call, long refused) {
        below(what, least, call, refused);
        for (int v : new int[] {most + 1, most + 2, MOST_INT - 1, MOST_INT}) {
            due.is(what + " refuses " + v, call.applyAsLong(v), refused);
        }
    }

    void below(String what, int least, IntToLongFunction call, long refused) {
        for (int v : new int[] {least - 1, least - 2, LEAST_INT + 1, LEAST_INT}) {
            due.is(what + " refuses " + v, call.applyAsLong(v), refused);
        }
    }

    /** An index: below 0 one answer, at the end of the row another one. */
    void index(String what, int size, IntToLongFunction call, long belowZero, long behind) {
        below(what, 0, call, belowZero);
        for (int v : new int[] {size, size + 1, MOST_INT - 1, MOST_INT}) {
            due.is(what + " is none at " + v, call.applyAsLong(v), behind);
        }
        if (size > 0) {
            long first = call.applyAsLong(0);
            long last = call.applyAsLong(size - 1);
            due.holds(what + " has a first one", first != belowZero && first != behind);
            due.holds(what + " has a last one", last != belowZero && last != behind);
        }
    }
}
