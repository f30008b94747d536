import java.util.Arrays;

/** The bounds of IMAGES and of rows: promises 62 to 66, and count(12) of 61. */
final class RowBoundsTest {
    private static final String NINE = "square wide 9 long 9;jet at 4 4 half 0 high 3;size drag 50 share 2;table at 6 4 most 1;";

    private static final Told told = new Told();

    private static void due(String call, long got, long want) {
        told.due(call, got, want);
    }

    /** Number i of a row of a WIDTH, if it is a WIND: that which is SEEN last; -2 if it is none. */
    private static int numberAt(TableNine x, int slot, int i, int width) {
        int other = slot == 3 ? 2 : 3;
        x.row(other, width, 1);
        x.paste(slot, i, other, 0, 1);
        return x.day(other) == -2 ? -2 : x.jet(3);
    }

    private static void holds(TableNine x, String name, int slot, int width, int... due) {
        for (int i = 0; i < due.length; i++) {
            due("number " + i + " of " + name, numberAt(x, slot, i, width), due[i]);
        }
    }

    private static void rows() {
        for (int slot = 0; slot < 4; slot++) {
            for (int width = 0; width < 4; width++) {
                for (int n : new int[] {0, 1, 59, 60}) {
                    TableNine x = Told.squareOf(NINE);
                    due("row(" + slot + ", " + width + ", " + n + ")", x.row(slot, width, n), 0);
                    due("SLOTS that have a row", x.count(12), 1);
                    due("write behind the last", x.write(slot, n, 1), -7);
                    due("write at -1", x.write(slot, -1, 1), -7);
                    due("write at the last", x.write(slot, n - 1, 39), n == 0 ? -7 : 0);
                    due("write at the first", x.write(slot, 0, 1), n == 0 ? -7 : 0);
                    due("day of it", x.day(slot) == -2 ? 1 : 0, 0);
                    due("BEATS of it", x.jet(2), n);
                    due("SEEN of it", x.jet(3), n == 0 ? -1 : n == 1 ? 1 : 39);
                }
            }
        }
        TableNine x = Told.squareOf(NINE);
        int[][] wrong = {{-1, 0, 1, -2}, {4, 0, 1, -2}, {0, -1, 1, -2}, {0, 4, 1, -2}, {0, 0, 61, -2}, {0, 0, Integer.MAX_VALUE, -2}, {0, 0, -1, -3}, {0, 0, Integer.MIN_VALUE, -3}, {4, 0, -1, -2}, {0, 4, -1, -2}};
        for (int[] w : wrong) {
            due("row(" + w[0] + ", " + w[1] + ", " + w[2] + ") of nothing", x.row(w[0], w[1], w[2]), w[3]);
            due("SLOT 0 has nothing", x.day(0), -6);
            due("no SLOT has a row", x.count(12), 0);
        }
        x.row(0, 1, 3);
        x.write(0, 0, 7);
        x.write(0, 2, 9);
        for (int[] w : wrong) {
            due("row(" + w[0] + ", " + w[1] + ", " + w[2] + ")", x.row(w[0], w[1], w[2]), w[3]);
            holds(x, "the row that stays", 0, 1, 7, 0, 9);
            due("its length stays", x.write(0, 3, 0), -7);
        }
        // in place of another one, all 0
        due("row of the same WIDTH", x.row(0, 1, 3), 0);
        holds(x, "a new row", 0, 1, 0, 0, 0);
        x.write(0, 2, 9);
        due("a shorter one", x.row(0, 1, 1), 0);
        due("a longer one again", x.row(0, 1, 3), 0);
        holds(x, "a longer one", 0, 1, 0, 0, 0);
    }

    private static void slotsThatHaveRows() {
        TableNine x = new TableNine();
        due("count(12) of a new object", x.count(12), 0);
        int[] slots = {2, 0, 3, 1};
        for (int i = 0; i < 4; i++) {
            x.row(slots[i], 0, 0);
            due("count(12) of " + (i + 1), x.count(12), i + 1);
            x.row(slots[i], 3, 60);
            due("count(12) of the same", x.count(12), i + 1);
        }
        Told.tell(x, NINE);
        x.square();
        due("count(12) behind square()", x.count(12), 4);
        x.keep(0);
        x.back(0);
        due("count(12) behind back()", x.count(12), 4);
    }

    /** What is cut to its WIDTH wraps around. */
    private static void writes() {
        long[][] cases = {
            // WIDTH, number, the WIND that it is then
            {0, 0, 0}, {0, 39, 39}, {0, 40, -2}, {0, 127, -2}, {0, 128, -2}, {0, 255, -2}, {0, 256, 0}, {0, 256 + 39, 39}, {0, -256 + 5, 5}, {0, -1, -2}, {0, Long.MIN_VALUE, 0}, {0, Long.MIN_VALUE + 9, 9}, {0, Long.MAX_VALUE, -2}, {0, 0xff00L + 21, 21},
            {1, 39, 39}, {1, 256, -2}, {1, 256 + 39, -2}, {1, 65535, -2}, {1, 65536, 0}, {1, 65536 + 39, 39}, {1, -65536 + 5, 5}, {1, -1, -2}, {1, Long.MIN_VALUE + 9, 9},
            {2, 39, 39}, {2, 65536 + 39, -2}, {2, (1L << 31) + 5, -2}, {2, 1L << 32, 0}, {2, (1L << 32) + 39, 39}, {2, -(1L << 32) + 5, 5}, {2, -1, -2}, {2, Long.MIN_VALUE + 9, 9},
            {3, 39, 39}, {3, (1L << 32) + 39, -2}, {3, -(1L << 32) + 5, -2}, {3, -1, -2}, {3, Long.MIN_VALUE, -2}, {3, Long.MIN_VALUE + 9, -2}, {3, Long.MAX_VALUE, -2},
        };
        for (long[] c : cases) {
            TableNine x = Told.squareOf(NINE);
            x.row(1, (int) c[0], 2);
            due("write of " + c[1], x.write(1, 1, c[1]), 0);
            holds(x, c[1] + " of WIDTH " + c[0], 1, (int) c[0], 0, (int) c[2]);
        }
        TableNine x = Told.squareOf(NINE);
        due("write to nothing", x.write(1, 0, 1), -6);
        due("write to nothing, no number", x.write(1, -1, 1), -6);
        due("write to no SLOT", x.write(4, 0, 1), -2);
        due("write to SLOT -1", x.write(-1, 0, 1), -2);
        x.row(1, 0, 3);
        x.write(1, 0, 7);
        x.write(1, 2, 9);
        for (int i : new int[] {-1, 3, 60, Integer.MIN_VALUE, Integer.MAX_VALUE}) {
            due("write at " + i, x.write(1, i, 5), -7);
            holds(x, "the row that stays", 1, 0, 7, 0, 9);
        }
        due("write over another", x.write(1, 0, 8), 0);
        holds(x, "the row that was written", 1, 0, 8, 0, 9);
    }

    private static TableNine counted(int width) {
        TableNine x = Told.squareOf(NINE);
        x.row(0, width, 6);
        for (int i = 0; i < 6; i++) {
            x.write(0, i, i + 1);
        }
        x.row(1, width, 4);
        for (int i = 0; i < 4; i++) {
            x.write(1, i, i + 11);
        }
        return x;
    }

    private static void pastes() {
        int[][] cases = {
            // SLOT, i, to, k, n, and what SLOTS 0 and 1 have then
            {0, 0, 1, 0, 4, 1, 2, 3, 4, 5, 6, 1, 2, 3, 4}, {0, 2, 1, 0, 4, 1, 2, 3, 4, 5, 6, 3, 4, 5, 6}, {0, 5, 1, 3, 1, 1, 2, 3, 4, 5, 6, 11, 12, 13, 6},
            {1, 0, 0, 2, 4, 1, 2, 11, 12, 13, 14, 11, 12, 13, 14}, {0, 0, 0, 0, 6, 1, 2, 3, 4, 5, 6, 11, 12, 13, 14}, {0, 0, 0, 1, 5, 1, 1, 2, 3, 4, 5, 11, 12, 13, 14},
            {0, 1, 0, 0, 5, 2, 3, 4, 5, 6, 6, 11, 12, 13, 14}, {0, 0, 0, 5, 1, 1, 2, 3, 4, 5, 1, 11, 12, 13, 14}, {0, 6, 1, 4, 0, 1, 2, 3, 4, 5, 6, 11, 12, 13, 14},
            {0, 0, 1, 0, 0, 1, 2, 3, 4, 5, 6, 11, 12, 13, 14}, {0, 0, 0, 2, 4, 1, 2, 1, 2, 3, 4, 11, 12, 13, 14},
        };
        int[][] beyond = {
            {0, 3, 1, 0, 4}, {0, 0, 1, 1, 4}, {0, 0, 1, 0, 5}, {0, 6, 1, 0, 1}, {0, 0, 1, 4, 1}, {0, 7, 1, 0, 0}, {0, 0, 1, 5, 0}, {0, -1, 1, 0, 1}, {0, -1, 1, 0, 0}, {0, 0, 1, -1, 1}, {0, 0, 1, -1, 0},
            {0, 0, 1, 0, -1}, {0, 6, 1, 4, -1}, {0, 1, 0, 0, 6}, {0, 0, 0, 1, 6}, {0, Integer.MAX_VALUE, 1, 0, 1}, {0, 0, 1, Integer.MAX_VALUE, 1}, {0, 1, 1, 1, Integer.MAX_VALUE},
            {0, Integer.MAX_VALUE, 1, 0, Integer.MAX_VALUE}, {0, 0, 1, 0, Integer.MIN_VALUE}, {0, Integer.MIN_VALUE, 1, 0, Integer.MIN_VALUE}, {0, 2, 1, 2, Integer.MAX_VALUE - 1}, {0, 59, 1, 0, 1},
        };
        for (int width = 0; width < 4; width++) {
            for (int[] c : cases) {
                TableNine x = counted(width);
                due("paste" + Arrays.toString(Arrays.copyOf(c, 5)), x.paste(c[0], c[1], c[2], c[3], c[4]), 0);
                holds(x, "SLOT 0", 0, width, Arrays.copyOfRange(c, 5, 11));
                holds(x, "SLOT 1", 1, width, Arrays.copyOfRange(c, 11, 15));
                due("the length of SLOT 0 stays", x.write(0, 6, 0), -7);
                due("the length of SLOT 1 stays", x.write(1, 4, 0), -7);
            }
            for (int[] b : beyond) {
                TableNine x = counted(width);
                due("paste" + Arrays.toString(b), x.paste(b[0], b[1], b[2], b[3], b[4]), -7);
                holds(x, "SLOT 0", 0, width, 1, 2, 3, 4, 5, 6);
                holds(x, "SLOT 1", 1, width, 11, 12, 13, 14);
            }
        }
    }

    private static void refusedPastes() {
        TableNine x = counted(1);
        int[] slots = {-1, 4, Integer.MIN_VALUE, Integer.MAX_VALUE};
        for (int slot : slots) {
            due("paste of SLOT " + slot, x.paste(slot, 0, 0, 0, 1), -2);
            due("paste to SLOT " + slot, x.paste(0, 0, slot, 0, 1), -2);
            due("paste of nothing to SLOT " + slot, x.paste(2, 0, slot, 0, 1), -2);
            due("paste of SLOT " + slot + " to nothing", x.paste(slot, -1, 2, 0, 1), -2);
        }
        due("paste of nothing", x.paste(2, 0, 0, 0, 0), -6);
        due("paste to nothing", x.paste(0, 0, 2, 0, 0), -6);
        due("paste of nothing to itself", x.paste(2, 0, 2, 0, 0), -6);
        due("paste of nothing, below 0", x.paste(2, -1, 0, -1, -1), -6);
        for (int width = 0; width < 4; width++) {
            x.row(2, width, 6);
            int due = width == 1 ? 0 : -8;
            due("paste to WIDTH " + width, x.paste(0, 0, 2, 0, 6), due);
            due("paste of WIDTH " + width, x.paste(2, 0, 0, 0, 0), due);
            due("paste beyond to WIDTH " + width, x.paste(0, 0, 2, 0, 7), width == 1 ? -7 : -8);
            due("paste from -1 to WIDTH " + width, x.paste(0, -1, 2, 0, 1), width == 1 ? -7 : -8);
            holds(x, "a row of WIDTH " + width, 2, width, width == 1 ? new int[] {1, 2, 3, 4, 5, 6} : new int[6]);
        }
        // rows without numbers
        x.row(2, 1, 0);
        due("paste of no numbers to none", x.paste(2, 0, 2, 0, 0), 0);
        due("paste of no numbers", x.paste(2, 0, 0, 6, 0), 0);
        due("paste to a row without", x.paste(0, 0, 2, 0, 1), -7);
        due("paste of a row without", x.paste(2, 0, 0, 0, 1), -7);
        // full rows
        x.row(0, 2, 60);
        x.row(1, 2, 60);
        x.write(0, 0, 3);
        x.write(0, 59, 4);
        due("paste of 60", x.paste(0, 0, 1, 0, 60), 0);
        due("paste of 61", x.paste(0, 0, 1, 0, 61), -7);
        due("paste of 60 from 1 on", x.paste(0, 1, 1, 0, 60), -7);
        due("number 0", numberAt(x, 1, 0, 2), 3);
        due("number 59", numberAt(x, 1, 59, 2), 4);
    }

    private static void imagesThatThereAre() {
        TableNine x = Told.squareOf(NINE);
        for (int k : new int[] {-1, 3, Integer.MIN_VALUE, Integer.MAX_VALUE}) {
            due("keep(" + k + ")", x.keep(k), -2);
            due("back(" + k + ")", x.back(k), -2);
        }
        for (int k = 0; k < 3; k++) {
            due("back(" + k + ") to nothing", x.back(k), -6);
        }
        // three, each with its own BEATS
        for (int k = 0; k < 3; k++) {
            x.blow(11);
            due("keep(" + k + ")", x.keep(k), 0);
            due("now stays", x.jet(2), k + 1);
        }
        for (int k = 2; k >= 0; k--) {
            due("back(" + k + ")", x.back(k), 0);
            due("BEATS of " + k, x.jet(2), k + 1);
            due("thrown of " + k, x.water(5), 2 * (k + 1));
        }
        // in place of the one ahead; what is kept doesn't go on
        x.blows(13, 9);
        due("keep(1) again", x.keep(1), 0);
        x.blows(13, 9);
        due("back(1)", x.back(1), 0);
        due("BEATS of 1 again", x.jet(2), 10);
        x.blows(13, 9);
        due("back(1) once more", x.back(1), 0);
        due("BEATS of 1 once more", x.jet(2), 10);
        due("back(0)", x.back(0), 0);
        due("BEATS of 0", x.jet(2), 1);
    }

    /** All but the TAPE, the FAULT and SLOTS: what goes on from an IMAGE goes on as from then. */
    private static void allIsKept() {
        String text = "square wide 9 long 11;jet at 4 5 half 1 high 9;size drag 50 share 2;size drag 20 share 3;table at 6 5 most 1;table at 4 2 most 0;road 5;vane lag 20 climb 2;rule wind 4 high 3;";
        TableNine x = Told.squareOf(text);
        TableNine twin = Told.squareOf(text);
        for (TableNine t : new TableNine[] {x, twin}) {
            t.blows(14, 3);
            t.nozzle(1, 33);
            t.move(1, 4, 1);
            t.blows(2, 20);
            t.blow(15);
            t.blow(21);
        }
        x.keep(1);
        // another SQUARE, other TABLES, other winds
        x.nozzle(0, 1);
        x.move(0, 0, 0);
        x.blows(39, 33);
        Told.tell(x, "square wide 30 long 30;size drag 99 share 9;table at 29 29 most 999;");
        x.square();
        x.blows(23, 50);
        due("back(1)", x.back(1), 0);
        for (TableNine t : new TableNine[] {x, twin}) {
            t.blows(11, 25);
        }
        twin.keep(1);
        x.keep(1);
        due("all goes on as from then", State.of(x).equals(State.of(twin)) ? 1 : 0, 1);
    }

    private static void notKept() {
        TableNine x = Told.squareOf(NINE);
        Told.rowOf(x, 0, 1, 2);
        Told.tell(x, "squ");
        x.keep(0);
        x.end(0);
        Told.tell(x, "square wide 4");
        due("square()", x.square(), -4);
        Told.tell(x, "square wide 5 long 6;");
        Told.rowOf(x, 0, 3, 4, 5);
        Told.rowOf(x, 1);
        due("back(0)", x.back(0), 0);
        due("the TAPE stays", x.count(6), 21);
        due("the FAULT stays", x.fault(0), 2);
        due("its place stays", x.fault(1), 12);
        due("SLOTS stay", x.count(12), 2);
        holds(x, "the row that stays", 0, 2, 3, 4, 5);
        due("the TAPE is the SQUARE", x.square(), 1);
        due("wide", x.count(0), 5);
        due("long", x.count(1), 6);
        // without a SQUARE, too
        TableNine y = new TableNine();
        due("keep(2) of no SQUARE", y.keep(2), 0);
        Told.tell(y, NINE);
        y.square();
        y.blows(11, 9);
        due("keep(0)", y.keep(0), 0);
        due("back(2) to no SQUARE", y.back(2), 0);
        due("wide of none", y.count(0), 0);
        due("road of none", y.count(11), -1);
        due("BEATS of none", y.jet(2), 0);
        due("SEEN of none", y.jet(3), -1);
        due("wet of none", y.wet(6, 4), -2);
        due("over of none", y.over(), 0);
        due("blow of none", y.blow(0), -2);
        due("back(0) to the SQUARE", y.back(0), 0);
        due("BEATS of it", y.jet(2), 9);
        due("LINES of it", y.count(5), 4);
        // behind a FAULT and behind square() IMAGES are as they were
        Told.tell(y, "x");
        y.square();
        due("back(2) behind a FAULT", y.back(2), 0);
        y.square();
        due("back(0) behind square()", y.back(0), 0);
        due("BEATS of it then", y.jet(2), 9);
        due("back(1) to nothing", y.back(1), -6);
    }

    public static void main(String[] args) {
        rows();
        slotsThatHaveRows();
        writes();
        pastes();
        refusedPastes();
        imagesThatThereAre();
        allIsKept();
        notKept();
        told.close("RowBoundsTest");
    }
}
