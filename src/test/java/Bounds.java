import java.util.function.Supplier;
import java.util.function.ToIntFunction;

/**
 * Holds calls to their bounds, each on an object of its own: the last value that is taken and the
 * first that is refused, on both sides; and behind what is refused, or only asked, that all stays.
 */
final class Bounds {
    interface Call {
        int of(TableNine x, int v);
    }

    private final Told told;
    private final Supplier<TableNine> maker;
    private final String before;

    Bounds(Told told, Supplier<TableNine> maker) {
        this.told = told;
        this.maker = maker;
        before = State.of(maker.get());
    }

    private void stays(String name, TableNine x) {
        String behind = State.of(x);
        if (!behind.equals(before)) {
            told.due(name + ": all stays", 0, 1);
        }
    }

    /** The answer is this, and nothing has changed. */
    void asks(String name, int answer, ToIntFunction<TableNine> call) {
        TableNine x = maker.get();
        told.due(name, call.applyAsInt(x), answer);
        stays(name, x);
    }

    void refuses(String name, int refusal, Call call, int... values) {
        for (int v : values) {
            asks(name + " of " + v, refusal, x -> call.of(x, v));
        }
    }

    private void takes(String name, int refusal, boolean changes, int v, Call call) {
        TableNine x = maker.get();
        told.due(name + " of " + v + " is refused", call.of(x, v) == refusal ? 1 : 0, 0);
        if (!changes) {
            stays(name + " of " + v, x);
        }
    }

    /** A call that only tells something. */
    void asksWithin(String name, int refusal, int least, int most, Call call) {
        refuses(name, refusal, call, least - 1, most + 1, Integer.MIN_VALUE, Integer.MAX_VALUE);
        takes(name, refusal, false, least, call);
        takes(name, refusal, false, most, call);
    }

    /** A call that changes something, if it is not refused. */
    void doesWithin(String name, int refusal, int least, int most, Call call) {
        refuses(name, refusal, call, least - 1, most + 1, Integer.MIN_VALUE, Integer.MAX_VALUE);
        takes(name, refusal, true, least, call);
        takes(name, refusal, true, most, call);
    }
}
