/**
 * All that an object's answers tell, as a text. Reading it goes back to each IMAGE and takes the
 * TAPE as the SQUARE, so the object is spent behind it: what stays is seen by comparing twins.
 */
final class State {
    private static final int[] WINDS = {0, 9, 11, 14, 23, 38};

    private final StringBuilder told = new StringBuilder();
    private final TableNine x;

    private State(TableNine x) {
        this.x = x;
    }

    static String of(TableNine x) {
        State s = new State(x);
        s.fault();
        s.slots();
        s.scene();
        for (int k = 0; k < 3; k++) {
            s.add("back " + k, x.back(k));
            s.scene();
        }
        s.tape();
        return s.told.toString();
    }

    private void add(String name, int... answers) {
        told.append(name).append(':');
        for (int answer : answers) {
            told.append(' ').append(answer);
        }
        told.append('\n');
    }

    private void fault() {
        add("fault", x.fault(0), x.fault(1));
        add("count", x.count(6), x.count(12));
    }

    private void scene() {
        for (int what = 0; what <= 11; what++) {
            add("count " + what, x.count(what));
        }
        for (int what = 0; what <= 5; what++) {
            add("water " + what, x.water(what));
        }
        add("jet", x.jet(0), x.jet(1), x.jet(2), x.jet(3));
        add("bits", x.over(), x.ice(), x.wettest(0), x.wettest(1));
        for (int i = 0; i < Math.max(x.count(0), x.count(1)); i++) {
            add("wet " + i, x.sum(0, i, 30, 1), x.sum(i, 0, 1, 30));
        }
        for (int table = 0; table < x.count(3); table++) {
            add("table " + table, x.table(table, 0), x.table(table, 1), x.table(table, 2), x.worst(table));
        }
        for (int size = 0; size < x.count(2); size++) {
            add("size " + size, x.drift(size, 60, 1), x.land(size, 1, 0));
        }
        for (int wind : WINDS) {
            add("wind " + wind, x.coming(wind), x.stray(10, wind), x.lets(wind % 10));
        }
    }

    private void slots() {
        for (int slot = 0; slot < 4; slot++) {
            for (int what = 0; what <= 5; what++) {
                add("thought " + slot, x.thought(slot, what));
            }
            add("marks " + slot, x.winds(slot, 10, 0), x.winds(slot, 10, 1), x.wear(slot));
            // pasting no numbers tells which places there are, and which rows have one WIDTH
            for (int n : new int[] {0, 1, 2, 3, 4, 60}) {
                add("length " + slot, x.paste(slot, n, slot, n, 0));
            }
            for (int other = 0; other < slot; other++) {
                add("width " + slot, x.paste(slot, 0, other, 0, 0));
            }
        }
    }

    private void tape() {
        add("square", x.square(), x.fault(0), x.fault(1));
        add("told", x.count(0), x.count(1), x.count(5), x.count(11));
    }
}
