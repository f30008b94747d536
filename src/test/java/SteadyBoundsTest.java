/**
 * The bounds of STEADY WINDS: promises 16 to 21, 32, 35, 36, 41, 43 and 52. On FIELD the SIZE
 * drifts, with drag 50, STRENGTH times PACE CELLS.
 */
final class SteadyBoundsTest {
    private static final String FIELD = "square wide 21 long 21;jet at 10 10 half 0 high 1;";
    private static final int[] DX = {0, 1, 0, -1};
    private static final int[] DY = {-1, 0, 1, 0};

    private static final Told told = new Told();

    private static void due(String call, long got, long want) {
        told.due(call, got, want);
    }

    private static void drifts() {
        TableNine x = Told.squareOf("square wide 7 long 9;jet at 3 4 half 1 high 10;size drag 99 share 1;size drag 50 share 2;size drag 0 share 4;");
        for (int way = 0; way < 4; way++) {
            due("the least drift", x.drift(0, 1, 10 * way), 0);
            due("drift(0, 1, 1)", x.drift(0, 1, 10 * way + 1), 198);
            due("the greatest drift", x.drift(0, 60, 10 * way + 9), 19602);
            due("drift of drag 0", x.drift(2, 60, 10 * way + 9), 0);
        }
        int[][] flights = {{1, 100}, {2, 200}, {3, 200}, {4, 300}, {6, 300}, {7, 400}, {10, 400}, {11, 500}, {45, 900}, {46, 1000}, {55, 1000}, {56, 1100}, {60, 1100}};
        for (int[] f : flights) {
            due("drift(1, " + f[0] + ", 11)", x.drift(1, f[0], 11), f[1]);
        }
        // the last CELL by each WAY, and the first beyond; in the basin it LANDS, too
        int[][] lands = {{11, 404}, {13, 406}, {14, -1}, {31, 402}, {33, 400}, {34, -1}, {1, 303}, {4, 3}, {5, -1}, {21, 503}, {24, 803}, {25, -1}, {0, 403}, {39, -1}};
        for (int[] l : lands) {
            due("land(1, 1, " + l[0] + ")", x.land(1, 1, l[0]), l[1]);
        }
        due("land of 198 hundredths", x.land(0, 1, 11), 404);
        due("land of 396 hundredths", x.land(0, 1, 32), 400);
        due("land(1, 60, 11)", x.land(1, 60, 11), -1);
        due("land(2, 60, 39)", x.land(2, 60, 39), 403);
        due("land(3, 1, 0)", x.land(3, 1, 0), -2);
        due("drift(3, 1, 0)", x.drift(3, 1, 0), -2);
        // with a basin beyond the square what LANDS there is beyond it all the same
        TableNine y = Told.squareOf("square wide 5 long 5;jet at 0 4 half 9 high 1;size drag 50 share 1;");
        due("land beyond in the basin by WAY 3", y.land(0, 1, 31), -1);
        due("land beyond in the basin by WAY 2", y.land(0, 1, 21), -1);
        due("land by WAY 0", y.land(0, 1, 4), 0);
        due("none strays there", y.stray(1, 31), 0);
        due("land of no SIZES", Told.squareOf("square wide 5 long 5;").land(0, 1, 0), -2);
    }

    private static void strays() {
        TableNine x = Told.squareOf("square wide 7 long 9;jet at 3 4 half 1 high 10;size drag 99 share 1;size drag 50 share 2;size drag 0 share 4;");
        int[][] strays = {{0, 19, 0}, {0, 0, 0}, {1, 0, 0}, {1, 11, 0}, {1, 12, 3}, {2, 11, 3}, {60, 39, 3}, {60, 30, 0}, {60, 31, 3}};
        for (int[] s : strays) {
            due("stray(" + s[0] + ", " + s[1] + ")", x.stray(s[0], s[1]), s[2]);
        }
        due("stray(-1, 0)", x.stray(-1, 0), -2);
        due("stray(61, 0)", x.stray(61, 0), -2);
        int[][] lows = {{10, 0, 60}, {11, 0, 1}, {11, 2, 1}, {11, 3, 60}, {12, 0, 0}, {12, 2, 0}, {12, 3, 60}, {39, 99, 60}, {39, 0, 0}};
        for (int[] l : lows) {
            due("low(" + l[0] + ", " + l[1] + ")", x.low(l[0], l[1]), l[2]);
        }
        due("low(11, 100)", x.low(11, 100), -2);
        due("low(11, -1)", x.low(11, -1), -2);
        // the most drops of a LUMP
        TableNine y = Told.squareOf(FIELD + "size drag 99 share 9;".repeat(5));
        due("stray of 45", y.stray(60, 19), 45);
        due("low of 44", y.low(19, 44), 0);
        due("low of 45", y.low(19, 45), 60);
        // 14 times 20 are 2 CELLS, times 22 are 3: only what flies 22 BEATS strays
        TableNine z = Told.squareOf("square wide 21 long 21;jet at 10 10 half 2 high 1;size drag 14 share 1;");
        due("stray(55, 11)", z.stray(55, 11), 0);
        due("stray(56, 11)", z.stray(56, 11), 1);
        due("low(11, 0) of 14", z.low(11, 0), 55);
        due("low(11, 1) of 14", z.low(11, 1), 60);
        TableNine none = Told.squareOf(FIELD);
        due("stray of no SIZES", none.stray(60, 19), 0);
        due("low of no SIZES", none.low(19, 0), 60);
    }

    private static void bounds() {
        for (int way = 0; way < 4; way++) {
            int wind = 10 * way + 1;
            int[][] tables = {{1, 0}, {2, 1}, {3, 3}, {4, 6}, {5, 10}, {6, 15}, {7, 21}, {8, 28}, {9, 36}, {10, 45}};
            for (int[] t : tables) {
                TableNine x = Told.squareOf(FIELD + "size drag 50 share 1;" + tableAt(t[0], way));
                due("bound of a TABLE " + t[0] + " off by WAY " + way, x.bound(0, wind), t[1]);
                due("bound by STRENGTH 0", x.bound(0, 10 * way), 60);
                due("bound by another WAY", x.bound(0, (wind + 10) % 40), 60);
            }
        }
        TableNine x = Told.squareOf("square wide 30 long 5;jet at 10 2 half 2 high 1;size drag 14 share 1;table at 13 2 most 0;table at 12 2 most 0;");
        due("bound by 22 BEATS alone", x.bound(0, 11), 55);
        due("bound in the basin", x.bound(1, 11), 60);
        due("bound(2, 11)", x.bound(2, 11), -2);
        // of several SIZES the first that comes there
        TableNine y = Told.squareOf(FIELD + "size drag 25 share 1;size drag 50 share 1;" + tableAt(2, 1));
        due("bound of two SIZES", y.bound(0, 11), 1);
        due("bound of no SIZES", Told.squareOf(FIELD + tableAt(2, 1)).bound(0, 11), 60);
    }

    private static String tableAt(int off, int way) {
        return "table at " + (10 + off * DX[way]) + " " + (10 + off * DY[way]) + " most 0;";
    }

    private static void reaches() {
        int[][] bits = {{1, 2}, {2, 6}, {3, 10}, {4, 22}, {5, 34}, {6, 78}, {7, 130}, {8, 278}, {9, 522}, {10, 38}};
        for (int way = 0; way < 4; way++) {
            for (int[] b : bits) {
                TableNine x = Told.squareOf(FIELD + "size drag 50 share 1;" + tableAt(b[0], way));
                for (int other = 0; other < 4; other++) {
                    due("reach of a TABLE " + b[0] + " off by WAY " + way, x.reach(0, other), other == way ? b[1] : 0);
                }
            }
        }
        // 11 off: by STRENGTH 1 from the greatest HIGH alone
        TableNine x = Told.squareOf("square wide 30 long 5;jet at 10 2 half 0 high 1;size drag 50 share 1;table at 21 2 most 0;table at 22 2 most 0;table at 10 2 most 0;");
        due("reach of 11 off", x.reach(0, 1), 2);
        due("reach of 12 off", x.reach(1, 1), 4 + 8 + 16 + 64);
        due("reach of the jet's CELL", x.reach(2, 1), 0);
        due("reach(3, 1)", x.reach(3, 1), -2);
        // 99 times 9 times 2: 17 CELLS, from the least HIGH alone
        TableNine y = Told.squareOf("square wide 30 long 5;jet at 10 2 half 0 high 1;size drag 99 share 1;table at 27 2 most 0;");
        due("reach by STRENGTH 9", y.reach(0, 1) & 512, 512);
        due("reach of no SIZES", Told.squareOf(FIELD + tableAt(2, 1)).reach(0, 1), 0);
    }

    private static void fines() {
        int[][] cases = {
            // half, HIGH, WIND, drag
            {0, 1, 0, 99}, {0, 60, 30, 99}, {0, 1, 1, 49}, {1, 1, 11, 99}, {0, 60, 39, 0}, {0, 55, 39, 0}, {0, 60, 21, 4},
            {0, 55, 21, 4}, {0, 1, 9, 5}, {9, 60, 19, 5}, {9, 1, 19, 55}, {9, 1, 15, 99}, {4, 1, 15, 49}, {9, 3, 15, 49}, {9, 4, 15, 33}, {1, 1, 12, 49},
        };
        for (int[] c : cases) {
            TableNine x = Told.squareOf("square wide 30 long 30;jet at 15 15 half " + c[0] + " high 1;size drag 7 share 1;");
            due("fine with half " + c[0] + " of HIGH " + c[1] + " by " + c[2], x.fine(0, c[1], c[2]), c[3]);
            x.nozzle(0, c[3]);
            due("that drag is CAUGHT", x.stray(c[1], c[2]), 0);
            if (c[3] < 99) {
                x.nozzle(0, c[3] + 1);
                due("the next is not", x.stray(c[1], c[2]), 1);
            }
        }
        // what is CAUGHT beyond the square is CAUGHT
        TableNine x = Told.squareOf("square wide 5 long 5;jet at 4 4 half 9 high 1;size drag 7 share 1;");
        due("fine beyond the square", x.fine(0, 1, 15), 99);
        due("fine(1, 1, 15)", x.fine(1, 1, 15), -2);
        due("fine of no SIZES", Told.squareOf(FIELD).fine(0, 1, 0), -2);
    }

    private static void span(TableNine t, int x, int y, int high, int marks, int... due) {
        due("marks(" + x + ", " + y + ", " + high + ")", t.marks(x, y, high), marks);
        for (int what = 0; what < 4; what++) {
            due("span(" + x + ", " + y + ", " + high + ", " + what + ")", t.span(x, y, high, what), due.length == 0 ? -1 : due[what]);
        }
        due("span of what 4", t.span(x, y, high, 4), -2);
        due("span of what -1", t.span(x, y, high, -1), -2);
    }

    private static void marks() {
        TableNine x = Told.squareOf(FIELD + "size drag 50 share 1;size drag 25 share 1;");
        for (int way = 0; way < 4; way++) {
            int bit = 1 << way;
            // to HIGH 3: 2 CELLS and 1 CELL for each STRENGTH
            span(x, 10 + DX[way], 10 + DY[way], 3, 1, 1, 1, bit, 2);
            span(x, 10 + 2 * DX[way], 10 + 2 * DY[way], 3, 2, 1, 2, bit, 3);
            span(x, 10 + 4 * DX[way], 10 + 4 * DY[way], 3, 2, 2, 4, bit, 3);
            span(x, 10 + 9 * DX[way], 10 + 9 * DY[way], 3, 1, 9, 9, bit, 2);
            span(x, 10 + 10 * DX[way], 10 + 10 * DY[way], 3, 1, 5, 5, bit, 1);
            span(x, 10 + 9 * DX[way], 10 + 9 * DY[way], 1, 1, 9, 9, bit, 1);
        }
        span(x, 10, 10, 3, 0);
        span(x, 11, 11, 3, 0);
        span(x, 0, 0, 60, 0);
        span(x, 20, 20, 1, 0);
        // what is CAUGHT does not LAND on a CELL
        TableNine y = Told.squareOf("square wide 21 long 21;jet at 10 10 half 1 high 1;size drag 50 share 1;");
        span(y, 11, 10, 1, 0);
        span(y, 12, 10, 1, 1, 2, 2, 2, 1);
        // 66 hundredths a STRENGTH: one CELL by 2 and 3, all five SIZES
        TableNine z = Told.squareOf(FIELD + "size drag 3 share 1;".repeat(5));
        span(z, 11, 10, 60, 10, 2, 3, 2, 31);
        span(z, 11, 10, 45, 10, 2, 3, 2, 31);
        span(z, 11, 10, 36, 10, 3, 4, 2, 31);
        TableNine none = Told.squareOf(FIELD);
        span(none, 11, 10, 1, 0);
    }

    private static void mists() {
        int[][] cases = {
            // wide, jet's X, half, drag, WIND, CELLS
            {30, 10, 0, 50, 11, 11}, {30, 10, 3, 50, 11, 8}, {30, 10, 9, 50, 11, 2}, {21, 10, 0, 50, 11, 10}, {21, 10, 0, 50, 31, 10}, {21, 9, 0, 50, 31, 9},
            {21, 10, 0, 50, 10, 0}, {30, 10, 0, 99, 19, 1}, {29, 11, 0, 99, 19, 1}, {28, 11, 0, 99, 19, 0}, {30, 10, 0, 3, 11, 0},
            {30, 10, 0, 5, 11, 1}, {30, 10, 0, 9, 11, 1}, {30, 10, 0, 10, 11, 2}, {30, 10, 0, 0, 19, 0}, {5, 4, 0, 50, 11, 0}, {5, 0, 0, 50, 11, 4},
        };
        for (int[] c : cases) {
            TableNine x = Told.squareOf("square wide " + c[0] + " long 5;jet at " + c[1] + " 2 half " + c[2] + " high 1;size drag " + c[3] + " share 1;");
            due("mist of drag " + c[3] + " by " + c[4] + " from " + c[1] + " of " + c[0], x.mist(0, c[4]), c[5]);
            due("mist(1, " + c[4] + ")", x.mist(1, c[4]), -2);
        }
        TableNine y = Told.squareOf("square wide 5 long 30;jet at 2 10 half 0 high 1;size drag 50 share 1;");
        due("mist by WAY 0", y.mist(0, 1), 10);
        due("mist by WAY 2", y.mist(0, 21), 11);
        // the first CELL of all is one, too
        TableNine z = Told.squareOf("square wide 5 long 5;jet at 4 0 half 0 high 1;size drag 50 share 1;");
        due("mist on (0, 0)", z.mist(0, 31), 4);
        due("mist on (0, 0) alone", z.mist(0, 34), 1);
    }

    private static void winds(TableNine x, String name, int many, int least, int high) {
        due("winds of " + name, x.winds(0, high, 0), many);
        due("least wind of " + name, x.winds(0, high, 1), least);
    }

    private static void windsByMarks() {
        TableNine x = Told.squareOf(FIELD + "size drag 50 share 1;size drag 25 share 1;");
        due("winds of nothing", x.winds(0, 1, 0), -6);
        Told.rowOf(x, 0);
        winds(x, "no marks", 40, 0, 1);
        // to HIGH 1 the second SIZE goes 1 CELL by STRENGTHS 2 and 3, the first by 1
        int[][] cases = {{909, 0, -1}, {910, 3, 1}, {110, 1, 9}, {1011, 3, 11}, {1110, 3, 21}, {1009, 3, 31}, {1001, 1, 39}, {1010, 0, -1}, {1000, 0, -1}, {2110, 0, -1}, {99, 0, -1}, {-1, 0, -1}, {-3, 0, -1}, {-90, 0, -1}};
        for (int[] c : cases) {
            Told.rowOf(x, 0, c[0]);
            winds(x, "mark " + c[0], c[1], c[2], 1);
        }
        // to HIGH 3 the first SIZE goes 2 CELLS for each STRENGTH, the second 1
        Told.rowOf(x, 0, 1011);
        winds(x, "mark 1011 to HIGH 3", 1, 11, 3);
        Told.rowOf(x, 0, 1011, 1012);
        winds(x, "two marks of one WIND", 1, 11, 3);
        Told.rowOf(x, 0, 1011, 1013);
        winds(x, "two marks of no WIND", 0, -1, 3);
        Told.rowOf(x, 0, 1018, 1014);
        winds(x, "two marks of WIND 14", 1, 14, 3);
        Told.rowOf(x, 0, 1011, 1009);
        winds(x, "marks to both sides", 0, -1, 3);
        Told.rowOf(x, 0, 1012, 1012, 1012);
        winds(x, "one mark told three times", 2, 11, 3);
        int[] full = new int[60];
        java.util.Arrays.fill(full, 1012);
        Told.rowOf(x, 0, full);
        winds(x, "a full row", 2, 11, 3);
        full[59] = 1013;
        Told.rowOf(x, 0, full);
        winds(x, "a full row with another at its end", 0, -1, 3);
        widths(x);
        firstCellAndBeyond();
        TableNine none = Told.squareOf(FIELD);
        Told.rowOf(none, 0, 1011);
        winds(none, "no SIZES", 0, -1, 1);
        Told.rowOf(none, 0);
        winds(none, "no SIZES and no marks", 40, 0, 1);
    }

    /** The mark of the first CELL is 0; one below 0 is nowhere, though drops are LOST or CAUGHT. */
    private static void firstCellAndBeyond() {
        TableNine x = Told.squareOf("square wide 5 long 5;jet at 4 0 half 0 high 1;size drag 50 share 1;");
        Told.rowOf(x, 0, 0);
        winds(x, "mark 0", 1, 34, 1);
        for (int mark = -1; mark >= -10; mark--) {
            Told.rowOf(x, 0, mark);
            winds(x, "mark " + mark, 0, -1, 60);
            winds(x, "mark " + mark, 0, -1, 1);
        }
        // the last CELL of the greatest square
        TableNine y = Told.squareOf("square wide 30 long 30;jet at 29 28 half 0 high 1;size drag 50 share 1;");
        Told.rowOf(y, 0, 2929);
        winds(y, "mark 2929", 1, 21, 1);
        Told.rowOf(y, 0, 2930);
        winds(y, "mark 2930", 0, -1, 1);
        Told.rowOf(y, 0, 3029);
        winds(y, "mark 3029", 0, -1, 3);
    }

    /** Marks are what is left of numbers that are cut. */
    private static void widths(TableNine x) {
        long[][] cases = {{1, 1001, 1, 39}, {1, 1001 + 65536, 1, 39}, {2, 1001 + 65536, 0, -1}, {2, 1001 + (1L << 32), 1, 39}, {3, 1001 + (1L << 32), 0, -1}, {3, 1001, 1, 39}, {0, 1001, 0, -1}, {3, Long.MIN_VALUE + 1001, 0, -1}, {3, Long.MAX_VALUE, 0, -1}};
        for (long[] c : cases) {
            x.row(0, (int) c[0], 1);
            x.write(0, 0, c[1]);
            winds(x, "mark " + c[1] + " of WIDTH " + c[0], (int) c[2], (int) c[3], 1);
        }
        // 1 byte holds the marks of the first rows: (10, 0) is 10, (27, 1) is 127
        TableNine y = Told.squareOf("square wide 30 long 5;jet at 20 1 half 0 high 1;size drag 50 share 1;");
        y.row(0, 0, 1);
        y.write(0, 0, 127);
        winds(y, "mark 127 of a byte", 1, 17, 1);
        y.write(0, 0, 128);
        winds(y, "mark 128 of a byte", 0, -1, 1);
    }

    private static void smalls() {
        TableNine x = Told.squareOf(FIELD + "size drag 50 share 3;size drag 0 share 2;");
        int[][] cases = {
            {1, 0, 11, 0}, {1, 1, 11, 3}, {1, 60, 11, 3}, {2, 1, 11, 0}, {2, 2, 11, 6}, {2, 3, 11, 6}, {11, 10, 19, 0}, {11, 11, 19, 33}, {11, 60, 19, 33},
            {10, 9, 19, 0}, {10, 10, 19, 30}, {11, 60, 10, 0}, {12, 60, 11, -2}, {0, 60, 11, -2}, {-1, 60, 11, -2}, {1, 61, 11, -2}, {1, -1, 11, -2}, {1, 1, 40, -2}, {1, 1, -1, -2},
        };
        for (int[] c : cases) {
            due("small(" + c[0] + ", " + c[1] + ", " + c[2] + ")", x.small(c[0], c[1], c[2]), c[3]);
        }
        // cut: 2 of 7 go to HIGH 3, which flies 4 BEATS, 2 of 8 to HIGH 4, which flies 6
        TableNine y = Told.squareOf("square wide 21 long 21;jet at 10 10 half 2 high 1;size drag 50 share 1;");
        due("small(2, 7, 11)", y.small(2, 7, 11), 0);
        due("small(2, 8, 11)", y.small(2, 8, 11), 2);
        due("small(1, 4, 11)", y.small(1, 4, 11), 1);
        due("small of no SIZES", Told.squareOf(FIELD).small(11, 60, 19), 0);
    }

    public static void main(String[] args) {
        drifts();
        strays();
        bounds();
        reaches();
        fines();
        marks();
        mists();
        windsByMarks();
        smalls();
        told.close("SteadyBoundsTest");
    }
}
