/** The bounds of what is in the air, of TABLES, bows and ways: promises 22 to 24, 37 to 40, 49 and 59. */
final class PlaceBoundsTest {
    /** By STRENGTH 0 a LUMP goes up, by any other none; it drifts half a CELL for each STRENGTH. */
    private static final String FIELD = "square wide 9 long 9;jet at 4 4 half 0 high 1;size drag 50 share 1;rule wind 1 high 0;";
    private static final int[] DX = {0, 1, 0, -1};
    private static final int[] DY = {-1, 0, 1, 0};

    private static final Told told = new Told();

    private static void due(String call, long got, long want) {
        told.due(call, got, want);
    }

    /** One LUMP is thrown on FIELD and comes on a CELL; half a CELL more is cut. */
    private static void paint(TableNine t, int x, int y) {
        t.blow(0);
        t.blow((x > 4 ? 10 : 30) + Math.max(1, 2 * Math.abs(x - 4)));
        t.blow((y > 4 ? 20 : 0) + Math.max(1, 2 * Math.abs(y - 4)));
    }

    private static void painted() {
        for (int y = 0; y < 9; y++) {
            for (int x = 0; x < 9; x++) {
                TableNine t = Told.squareOf(FIELD);
                paint(t, x, y);
                due("wet(" + x + ", " + y + ")", t.wet(x, y), x == 4 && y == 4 ? 0 : 1);
                due("wettest(0)", t.wettest(0), x == 4 && y == 4 ? -1 : x + 100 * y);
                due("way to it", t.way(x, y, x, y), x == 4 && y == 4 ? -1 : 1);
            }
        }
    }

    private static void nothingInTheAir() {
        TableNine x = Told.squareOf(FIELD + "table at 5 4 most 0;");
        for (int wind = 0; wind < 40; wind++) {
            due("already of nothing", x.already(0, wind), 0);
            due("coming of nothing", x.coming(wind), 0);
            due("last of nothing", x.last(0, wind), 0);
        }
        due("worst of nothing", x.worst(0), -1);
        x.blow(0);
        x.blows(11, 2);
        due("it came down", x.table(0, 3), 1);
        due("already behind it", x.already(0, 11), 0);
        due("coming behind it", x.coming(11), 0);
        due("last behind it", x.last(0, 11), 0);
        due("worst behind it", x.worst(0), -1);
    }

    /** HIGH 60 flies 22 BEATS: 11 CELLS by STRENGTH 1. */
    private static void longestFlight() {
        String text = "square wide 30 long 5;jet at 4 2 half 0 high 60;size drag 50 share 3;rule wind 1 high 0;table at 15 2 most 0;table at 14 2 most 0;table at 4 2 most 0;";
        TableNine x = Told.squareOf(text);
        x.blow(0);
        for (int left = 22; left >= 1; left--) {
            due("last with " + left + " left", x.last(0, 11), left);
            due("already with " + left + " left", x.already(0, 11), 3);
            due("coming with " + left + " left", x.coming(11), 3);
            due("worst with " + left + " left", x.worst(0), 11);
            due("last of the next TABLE", x.last(1, 11), 0);
            due("already of the next TABLE", x.already(1, 11), 0);
            // the jet's CELL is in the basin: nothing LANDS on it
            due("already in the basin", x.already(2, 0), 0);
            due("last in the basin", x.last(2, 0), 0);
            due("worst in the basin", x.worst(2), -1);
            due("coming by STRENGTH 0", x.coming(0), left >= 21 ? 0 : 3);
            x.blow(11);
        }
        due("it came down", x.table(0, 3), 3);
        due("nothing is left", x.last(0, 11), 0);
        due("worst of nothing", x.worst(0), -1);
    }

    private static void worst() {
        // the first SIZE comes 2 CELLS off by STRENGTH 2, the second, of more drops, by 4 and 5
        TableNine x = Told.squareOf("square wide 21 long 21;jet at 10 10 half 0 high 1;size drag 50 share 1;size drag 25 share 2;rule wind 1 high 0;"
                + "table at 12 10 most 0;table at 10 8 most 0;table at 1 10 most 0;table at 10 19 most 0;table at 20 20 most 0;table at 10 10 most 0;table at 11 10 most 0;");
        x.blow(0);
        due("already(0, 12)", x.already(0, 12), 1);
        due("already(0, 14)", x.already(0, 14), 2);
        due("already(0, 15)", x.already(0, 15), 2);
        due("worst of more drops, then the least", x.worst(0), 14);
        due("worst by WAY 0", x.worst(1), 4);
        due("worst by WIND 39", x.worst(2), 39);
        due("worst by WIND 29", x.worst(3), 29);
        due("worst of what none reaches", x.worst(4), -1);
        due("worst in the basin", x.worst(5), -1);
        due("worst of 1 CELL", x.worst(6), 12);
        due("worst(7)", x.worst(7), -2);
        due("worst(-1)", x.worst(-1), -2);
        // over CELLS 2 and 1 off already, WINDS 0, 10, 20 and 30 bring them there
        x.blow(14);
        due("already by WIND 0", x.already(0, 0), 1);
        due("already by WIND 30", x.already(0, 30), 1);
        due("worst of the second one", x.worst(0), 14);
        due("worst of several is the least, 0", x.worst(6), 0);
        due("last in one BEAT", x.last(0, 0), 1);
    }

    /** Each of the 40 WINDS: a drop in the air comes so many CELLS off by its WAY, and nowhere else. */
    private static void everyWind() {
        TableNine x = Told.squareOf("square wide 30 long 30;jet at 15 15 half 0 high 1;size drag 50 share 7;rule wind 1 high 0;table at 0 0 most 0;");
        x.blow(0);
        for (int wind = 0; wind < 40; wind++) {
            int way = wind / 10;
            int cells = wind % 10;
            due("coming by " + wind, x.coming(wind), cells == 0 ? 0 : 7);
            if (cells > 0) {
                x.move(0, 15 + cells * DX[way], 15 + cells * DY[way]);
                due("worst of " + wind, x.worst(0), wind);
                for (int other : new int[] {wind - 1, wind, wind + 1, (wind + 10) % 40, (wind + 20) % 40, (wind + 30) % 40}) {
                    if (other < 40) {
                        due("already of " + wind + " by " + other, x.already(0, other), other == wind ? 7 : 0);
                        due("last of " + wind + " by " + other, x.last(0, other), other == wind ? 2 : 0);
                    }
                }
            }
        }
    }

    /** As many SIZES as there are, and not those of the SQUARE ahead. */
    private static void sizesInTheAir() {
        String five = "square wide 9 long 9;jet at 4 4 half 0 high 1;table at 5 4 most 0;rule wind 1 high 0;";
        TableNine x = Told.squareOf(five + "size drag 0 share 9;".repeat(4) + "size drag 50 share 9;");
        x.blow(0);
        due("already of the fifth SIZE", x.already(0, 11), 9);
        due("coming of the fifth SIZE", x.coming(11), 9);
        due("last of the fifth SIZE", x.last(0, 11), 2);
        due("worst of the fifth SIZE", x.worst(0), 11);
        Told.tell(x, five + "size drag 0 share 9;");
        x.square();
        x.blow(0);
        for (int wind = 0; wind < 40; wind++) {
            due("already of one SIZE", x.already(0, wind), 0);
            due("coming of one SIZE", x.coming(wind), 0);
            due("last of one SIZE", x.last(0, wind), 0);
        }
        due("worst of one SIZE", x.worst(0), -1);
        Told.tell(x, five + "size drag 50 share 9;".repeat(5));
        x.square();
        x.blow(0);
        Told.tell(x, five);
        x.square();
        x.blow(0);
        for (int wind = 0; wind < 40; wind++) {
            due("already of no SIZES", x.already(0, wind), 0);
            due("coming of no SIZES", x.coming(wind), 0);
            due("last of no SIZES", x.last(0, wind), 0);
        }
    }

    /** Of two LUMPS the first has one BEAT left, the second two. */
    private static void last() {
        TableNine x = Told.squareOf(FIELD + "table at 5 4 most 0;table at 6 4 most 0;table at 7 4 most 0;");
        x.blow(0);
        x.blow(0);
        due("two LUMPS", x.water(1), 2);
        due("last(0, 11): the second", x.last(0, 11), 2);
        due("last(0, 12): the first", x.last(0, 12), 1);
        due("last(1, 12): the second", x.last(1, 12), 2);
        due("last(1, 14): the first", x.last(1, 14), 1);
        due("last(2, 13): the second", x.last(2, 13), 2);
        due("last(2, 16): the first", x.last(2, 16), 1);
        due("last(2, 15): none", x.last(2, 15), 0);
        due("coming(10)", x.coming(10), 0);
        due("coming(11)", x.coming(11), 1);
        due("coming(12)", x.coming(12), 2);
        // what is LOST is not CAUGHT
        due("coming(19)", x.coming(19), 2);
        due("already of what is LOST", x.already(2, 19), 0);
        // 22 LUMPS, as many as there can be: all but the last have drifted
        TableNine y = Told.squareOf("square wide 5 long 5;jet at 2 2 half 9 high 60;size drag 0 share 9;");
        y.blows(19, 50);
        due("22 LUMPS", y.water(1), 22);
        due("all are CAUGHT", y.coming(19), 0);
        y.nozzle(0, 99);
        due("all that have 2 BEATS left", y.coming(19), 9 * 21);
        due("all that have 9 BEATS left", y.coming(12), 9 * (22 - 5));
    }

    private static void where() {
        TableNine x = Told.squareOf("square wide 30 long 30;jet at 5 5 half 0 high 1;table at 20 20 most 0;table at 0 0 most 0;table at 29 29 most 0;table at 19 19 most 0;");
        for (int d = 0; d <= 9; d++) {
            // other TABLES stand on (19, 19) and (20, 20)
            due("where(0, " + d + ")", x.where(0, d), d == 1 ? 1920 : 101 * (20 - d));
            due("where(1, " + d + ")", x.where(1, d), 0);
            due("where(2, " + d + ")", x.where(2, d), d == 9 ? 2021 : 101 * (29 - d));
        }
        due("where(0, 10)", x.where(0, 10), -2);
        due("where(0, -1)", x.where(0, -1), -2);
        due("where(4, 0)", x.where(4, 0), -2);
        // the only CELL is its own, as the others are the basin's or other TABLES'
        TableNine y = Told.squareOf("square wide 5 long 5;jet at 2 2 half 1 high 1;table at 4 2 most 0;table at 4 1 most 0;table at 4 3 most 0;");
        due("where of its own alone", y.where(0, 1), 204);
        due("where beyond them", y.where(0, 2), 2);
        due("where of the corner", y.where(1, 1), 3);
        // none: two on one CELL, or in the basin
        TableNine z = Told.squareOf("square wide 9 long 9;jet at 4 4 half 2 high 1;table at 8 8 most 0;table at 8 8 most 0;table at 4 4 most 0;table at 6 6 most 0;");
        due("where of two on one", z.where(0, 0), -1);
        due("where of the other", z.where(1, 0), -1);
        due("where of two by d 1", z.where(0, 1), 707);
        for (int d = 0; d < 3; d++) {
            due("where in the basin, d " + d, z.where(2, d), -1);
        }
        due("where beside the basin", z.where(2, 3), 101);
        due("where in the basin's corner", z.where(3, 0), -1);
        due("where out of the basin's corner", z.where(3, 1), 507);
    }

    /** The least WET, then the first by Y, then X. */
    private static void whereByWet() {
        TableNine x = Told.squareOf(FIELD + "table at 7 7 most 0;");
        for (int y = 6; y <= 8; y++) {
            for (int at = 6; at <= 8; at++) {
                paint(x, at, y);
            }
        }
        due("all are like", x.where(0, 1), 606);
        due("its own", x.where(0, 0), 707);
        paint(x, 6, 6);
        due("the next by X", x.where(0, 1), 607);
        paint(x, 7, 6);
        paint(x, 8, 6);
        due("the next by Y", x.where(0, 1), 706);
        paint(x, 6, 7);
        paint(x, 7, 7);
        due("not its own any more", x.where(0, 1), 708);
        due("its own all the same", x.where(0, 0), 707);
        due("a dry one farther off", x.where(0, 2), 505);
    }

    private static void move() {
        TableNine x = Told.squareOf("square wide 9 long 11;jet at 4 5 half 1 high 1;table at 7 8 most 3;table at 0 0 most 0;table at 4 5 most 0;");
        int[][] basin = {{3, 4}, {4, 4}, {5, 4}, {3, 5}, {4, 5}, {5, 5}, {3, 6}, {5, 6}};
        for (int[] b : basin) {
            due("move to the basin", x.move(0, b[0], b[1]), -5);
        }
        due("move to another", x.move(0, 0, 0), -5);
        due("move beyond X", x.move(0, 9, 0), -2);
        due("move beyond Y", x.move(0, 0, 11), -2);
        due("move to X -1", x.move(0, -1, 0), -2);
        due("move to Y -1", x.move(0, 0, -1), -2);
        due("move of no TABLE", x.move(3, 1, 1), -2);
        due("move of no TABLE to another's", x.move(3, 0, 0), -2);
        due("it stays, X", x.table(0, 0), 7);
        due("it stays, Y", x.table(0, 1), 8);
        int[][] free = {{2, 5}, {6, 5}, {4, 3}, {4, 7}, {8, 10}, {8, 0}, {0, 10}};
        int was = 807;
        for (int[] f : free) {
            due("move to " + f[0] + " " + f[1], x.move(0, f[0], f[1]), was);
            was = f[0] + 100 * f[1];
            due("move to its own", x.move(0, f[0], f[1]), was);
        }
        // where it was is free then
        due("move to where the other was", x.move(1, 7, 8), 0);
        due("move to the free corner", x.move(0, 0, 0), 1000);
        // out of the basin, but not back
        due("move out of the basin", x.move(2, 8, 8), 504);
        due("move into it", x.move(2, 4, 5), -5);
        due("most stays", x.table(0, 2), 3);
        // two told on one CELL
        TableNine y = Told.squareOf("square wide 5 long 5;table at 0 0 most 0;table at 0 0 most 0;");
        due("move to its own, where another is", y.move(0, 0, 0), -5);
        due("move away", y.move(0, 1, 0), 0);
        due("move of the other to its own", y.move(1, 0, 0), 0);
    }

    /** A TABLE is WET as its CELL is, where it is. */
    private static void moveAndWet() {
        TableNine x = Told.squareOf(FIELD + "table at 7 7 most 0;");
        paint(x, 7, 7);
        due("over()", x.over(), 1);
        due("move away", x.move(0, 6, 7), 707);
        due("over() on a dry CELL", x.over(), 0);
        due("table(0, 3) there", x.table(0, 3), 0);
        due("wet(7, 7)", x.wet(7, 7), 1);
        due("move back", x.move(0, 7, 7), 706);
        due("over() again", x.over(), 1);
    }

    /** Seen from each CELL where x stands; the jet is on the CELL j. */
    private static void bow(int way, String... rows) {
        int jetX = 0;
        int jetY = 0;
        for (int y = 0; y < rows.length; y++) {
            if (rows[y].indexOf('j') >= 0) {
                jetX = rows[y].indexOf('j');
                jetY = y;
            }
        }
        String text = "square wide " + rows[0].length() + " long " + rows.length + ";jet at " + jetX + " " + jetY + " half ";
        for (int half = 0; half <= 9; half++) {
            TableNine t = Told.squareOf(text + half + " high 1;");
            int seen = 0;
            for (int y = 0; y < rows.length; y++) {
                for (int x = 0; x < rows[y].length(); x++) {
                    int due = rows[y].charAt(x) == 'x' ? 1 : 0;
                    due("bow(" + x + ", " + y + ", " + way + ") of jet " + jetX + " " + jetY, t.bow(x, y, way), due);
                    boolean basin = Math.abs(x - jetX) <= half && Math.abs(y - jetY) <= half;
                    seen += basin ? 0 : due;
                }
            }
            due("bows(" + way + ") with half " + half, t.bows(way), seen);
        }
    }

    private static void bows() {
        bow(1, ".......", "x......", "xxx....", "xxxxj..", "xxx....", "x......", ".......");
        bow(3, ".......", "......x", "....xxx", "..jxxxx", "....xxx", "......x", ".......");
        bow(0, ".......", "...j...", "...x...", "..xxx..", "..xxx..", ".xxxxx.", ".xxxxx.", "xxxxxxx");
        bow(2, "xxxxxxx", ".xxxxx.", ".xxxxx.", "..xxx..", "..xxx..", "...x...", "...j...", ".......");
        // the jet on the edge: from none it is farther by that WAY
        bow(1, ".....", ".....", "j....", ".....", ".....");
        bow(3, ".....", ".....", "....j", ".....", ".....");
        bow(0, ".....", ".....", ".....", ".....", "..j..");
        bow(2, "..j..", ".....", ".....", ".....", ".....");
        bow(2, "xxx..", "xxx..", "xx...", "xx...", "x....", "j....");
        TableNine x = Told.squareOf(FIELD);
        due("bow by WAY 4", x.bow(0, 0, 4), -2);
        due("bow by WAY -1", x.bow(0, 0, -1), -2);
        due("bow of no CELL", x.bow(9, 0, 0), -2);
        due("bows(4)", x.bows(4), -2);
        due("bows(-1)", x.bows(-1), -2);
    }

    private static void ways() {
        TableNine x = Told.squareOf(FIELD);
        due("way to itself", x.way(0, 0, 0, 0), 0);
        due("way across", x.way(0, 0, 8, 8), 0);
        due("way from the jet", x.way(4, 4, 0, 0), -1);
        due("way to the jet", x.way(0, 0, 4, 4), -1);
        due("way in the jet", x.way(4, 4, 4, 4), -1);
        due("way past the jet", x.way(3, 4, 5, 4), 0);
        // side by side, not by corners: (0, 0) is shut in by two WET CELLS
        paint(x, 1, 0);
        paint(x, 0, 1);
        paint(x, 0, 1);
        due("way out of the corner", x.way(0, 0, 1, 1), 1);
        due("way into the corner", x.way(8, 8, 0, 0), 1);
        due("way from a WET CELL", x.way(0, 1, 8, 8), 2);
        due("way from one to the other", x.way(0, 1, 1, 0), 3);
        due("way to a WET CELL itself", x.way(0, 1, 0, 1), 2);
        paint(x, 0, 0);
        due("way from the corner", x.way(0, 0, 8, 8), 2);
        due("way to a dry CELL from a WET one", x.way(1, 1, 0, 0), 2);
        // a wall with one gap at its end, and one more wall with a gap at the other end
        TableNine y = Told.squareOf(FIELD);
        for (int at = 0; at < 8; at++) {
            paint(y, 1, 8 - at);
            paint(y, 3, at);
        }
        due("way by both gaps", y.way(0, 8, 3, 8), 0);
        due("way through a wall", y.way(1, 8, 3, 8), 1);
        paint(y, 1, 0);
        due("way without the first gap", y.way(0, 8, 3, 8), 1);
        paint(y, 3, 8);
        due("way without gaps", y.way(0, 8, 3, 8), 2);
        due("way with none between", y.way(0, 0, 0, 8), 0);
    }

    /** The basin parts the square, or leaves one row of CELLS. */
    private static void waysPastBasins() {
        TableNine x = Told.squareOf("square wide 5 long 12;jet at 2 6 half 2 high 1;");
        due("way to the other part", x.way(0, 0, 0, 11), -1);
        due("way back", x.way(4, 11, 4, 0), -1);
        due("way in one part", x.way(0, 0, 4, 3), 0);
        due("way in the other", x.way(0, 9, 4, 11), 0);
        due("way to the basin's edge", x.way(0, 0, 0, 4), -1);
        TableNine y = Told.squareOf("square wide 6 long 12;jet at 2 6 half 2 high 1;");
        due("way by one row of CELLS", y.way(0, 0, 0, 11), 0);
        TableNine z = Told.squareOf("square wide 5 long 5;jet at 2 2 half 9 high 1;");
        due("way in a basin", z.way(0, 0, 4, 4), -1);
        due("way in a basin to itself", z.way(0, 0, 0, 0), -1);
        due("way beyond it", z.way(5, 0, 0, 0), -2);
        due("way to beyond it", z.way(0, 0, 0, 5), -2);
        TableNine w = Told.squareOf("square wide 30 long 30;jet at 15 15 half 9 high 1;");
        due("way round the greatest basin", w.way(15, 5, 15, 25), 0);
        due("way from corner to corner", w.way(29, 0, 0, 29), 0);
    }

    public static void main(String[] args) {
        painted();
        nothingInTheAir();
        longestFlight();
        worst();
        everyWind();
        sizesInTheAir();
        last();
        where();
        whereByWet();
        move();
        moveAndWet();
        bows();
        ways();
        waysPastBasins();
        told.close("PlaceBoundsTest");
    }
}
