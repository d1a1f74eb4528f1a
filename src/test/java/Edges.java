import java.util.function.IntPredicate;
import java.util.function.IntUnaryOperator;
import java.util.function.Supplier;

/** Asks a call with the numbers about the ends of what it takes, each on a new object. */
final class Edges {
    static final int MIN = Integer.MIN_VALUE;
    static final int MAX = Integer.MAX_VALUE;

    /** A call with one of its numbers left open. */
    interface Call {
        int ask(CutBoard x, int v);
    }

    private final Due due;

    Edges(Due due) {
        this.due = due;
    }

    /**
     * least to most are taken. Refused are the ones beside them, and those that a mask, a cast to fewer bits
     * or a sum that wraps around would take for one of them.
     */
    void range(String sentence, Supplier<CutBoard> fresh, Call call, int least, int most) {
        taken(sentence, fresh, call, least);
        taken(sentence, fresh, call, most);
        for (int v = least; v <= most && v < least + 1100; v++) {
            taken(sentence, fresh, call, v);
        }
        none(sentence, fresh, call, least - 1, least - 2, most + 1, most + 2, MIN, MIN + 1, MAX, MAX - 1);
        for (int bit = 0; bit < 32; bit++) {
            for (int v : new int[] {least ^ 1 << bit, most ^ 1 << bit, -least - (1 << bit), -most - (1 << bit)}) {
                if (v < least || v > most) {
                    none(sentence, fresh, call, v);
                }
            }
        }
    }

    private void taken(String sentence, Supplier<CutBoard> fresh, Call call, int v) {
        int got = call.ask(fresh.get(), v);
        if (got < 0) {
            due.is(sentence + ": " + v + " is taken, but", got, 0);
        } else {
            due.holds(sentence, true);
        }
    }

    void none(String sentence, Supplier<CutBoard> fresh, Call call, int... values) {
        for (int v : values) {
            due.is(sentence + ": " + v, call.ask(fresh.get(), v), CutBoard.NONE);
        }
    }

    /** Every number from first to last, with the answer that is due for it, and those far away, which are NONE. */
    void sweep(String sentence, Supplier<CutBoard> fresh, Call call, int first, int last, IntUnaryOperator answer) {
        for (int v = first; v <= last; v++) {
            due.is(sentence + ": " + v, call.ask(fresh.get(), v), answer.applyAsInt(v));
        }
        none(sentence, fresh, call, MIN, MIN + 1, MAX, MAX - 1);
        for (int bit = 20; bit < 32; bit++) {
            none(sentence, fresh, call, 1 << bit, -(1 << bit), (1 << bit) + 1);
        }
    }

    /** Likewise, where it only matters which numbers are taken; the others are NONE. */
    void taking(String sentence, Supplier<CutBoard> fresh, Call call, int first, int last, IntPredicate takes) {
        Call whether = (x, v) -> {
            int got = call.ask(x, v);
            return got >= 0 ? 1 : got;
        };
        sweep(sentence, fresh, whether, first, last, v -> takes.test(v) ? 1 : CutBoard.NONE);
    }
}
