import java.lang.reflect.InvocationTargetException;
import java.lang.reflect.Method;
import java.lang.reflect.Modifier;
import java.util.Arrays;

/** No call throws, whatever its arguments, in whatever state. */
final class EdgeTest {
    private static final int[] INTS = {Integer.MIN_VALUE, -1, 0, 1, 4, 39, 60, Integer.MAX_VALUE};
    private static final int[] FEW_INTS = {Integer.MIN_VALUE, 0, 3, Integer.MAX_VALUE};
    private static final long[] LONGS = {Long.MIN_VALUE, -1, 0, 39, 201, Long.MAX_VALUE};

    private static final Told told = new Told();

    private static String greatest() {
        StringBuilder text = new StringBuilder("square wide 30 long 30;jet at 29 0 half 0 high 60;road 29;vane lag 20 climb 60;");
        for (int i = 0; i < 5; i++) {
            text.append("size drag ").append(99 - 20 * i).append(" share 9;");
        }
        for (int i = 0; i < 8; i++) {
            text.append("table at ").append(3 * i).append(" 0 most ").append(i).append(";");
        }
        for (int i = 0; i < 6; i++) {
            text.append("rule wind ").append(i + 4).append(" high ").append(60 - i).append(";");
        }
        return text.toString();
    }

    private static TableNine state(int kind) {
        TableNine x = new TableNine();
        if (kind > 0) {
            Told.tell(x, kind == 1 ? "square wide 5 long 5;" : greatest());
            x.square();
            x.blows(31, 30);
            x.blows(5, 7);
            Told.rowOf(x, 0, 39, 38, 37, 0, 9, 19, 29);
            Told.rowOf(x, 3, 50, -1);
            x.keep(0);
        }
        return x;
    }

    private static void call(TableNine x, Method m, Object[] args) throws IllegalAccessException {
        try {
            m.invoke(x, args);
        } catch (InvocationTargetException e) {
            told.due(m.getName() + Arrays.toString(args) + " threw " + e.getCause(), 1, 0);
        }
    }

    private static void callAll(TableNine x, Method m, Object[] args, int at) throws IllegalAccessException {
        Class<?>[] kinds = m.getParameterTypes();
        if (at == args.length) {
            call(x, m, args);
        } else if (kinds[at] == long.class) {
            for (long v : LONGS) {
                args[at] = v;
                callAll(x, m, args, at + 1);
            }
        } else {
            for (int v : args.length > 3 ? FEW_INTS : INTS) {
                args[at] = v;
                callAll(x, m, args, at + 1);
            }
        }
    }

    public static void main(String[] args) throws IllegalAccessException {
        for (int kind = 0; kind < 3; kind++) {
            for (Method m : TableNine.class.getDeclaredMethods()) {
                if (Modifier.isPublic(m.getModifiers())) {
                    callAll(state(kind), m, new Object[m.getParameterCount()], 0);
                }
            }
        }
        told.due("LINES of the greatest SQUARE", Told.squareOf(greatest()).count(5), 23);
        longRun();
        told.close("EdgeTest");
    }

    /** As many BEATS as 512 calls can bring: all that was thrown is still somewhere. */
    private static void longRun() {
        TableNine x = Told.squareOf(greatest());
        for (int i = 0; i < 480; i++) {
            x.blows(30 + i % 4, 400);
        }
        told.due("BEATS", x.jet(2), 480 * 400);
        told.due("drops", x.water(0) + x.water(2) + x.water(3) + x.water(4), x.water(5));
        told.due("WET of all", x.sum(0, 0, 30, 30), x.water(4));
    }
}
