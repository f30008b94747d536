import java.math.BigInteger;

/** The bounds of BEATS: Terms II and IV, promises 6 to 8, 10 to 15, 31, 33, 42, 50 and 51. */
final class BeatBoundsTest {
    private static final int[] DX = {0, 1, 0, -1};
    private static final int[] DY = {-1, 0, 1, 0};

    private static final Told told = new Told();

    private static void due(String call, long got, long want) {
        told.due(call, got, want);
    }

    /** By STRENGTH 0 a LUMP goes up, by any other none: so one LUMP can be watched. */
    private static TableNine one(String text, int high, int drag, int share) {
        return one(text, high, drag, share, "");
    }

    private static TableNine one(String text, int high, int drag, int share, String more) {
        TableNine x = Told.squareOf(text + " high " + high + ";size drag " + drag + " share " + share + ";rule wind 1 high 0;" + more);
        due("the first BEAT", x.blow(0), 0);
        due("one LUMP", x.water(1), 1);
        due("its drops", x.water(0), share);
        return x;
    }

    private static void paces() {
        TableNine x = new TableNine();
        for (int high = 0; high <= 60; high++) {
            int v = x.pace(high);
            due("pace(" + high + ") is enough", v * (v + 1) / 2 >= high ? 1 : 0, 1);
            due("pace(" + high + ") is the least", v == 0 || v * (v - 1) / 2 < high ? 1 : 0, 1);
        }
        due("pace(0)", x.pace(0), 0);
        due("pace(60)", x.pace(60), 11);
        due("pace(61)", x.pace(61), -2);
        due("pace(-1)", x.pace(-1), -2);
    }

    /** A LUMP LANDS in the BEAT that is 2 PACES behind that in which it was thrown, in none ahead. */
    private static void flights() {
        for (int high = 1; high <= 60; high++) {
            TableNine x = one("square wide 9 long 9;jet at 4 4 half 0", high, 0, 5);
            int flight = 2 * x.pace(high);
            due("no BEATS more", x.blows(11, 0), 0);
            x.blows(11, flight - 1);
            due("in the air by HIGH " + high, x.water(0), 5);
            due("LUMPS by HIGH " + high, x.water(1), 1);
            due("nothing CAUGHT by HIGH " + high, x.water(2), 0);
            x.blow(11);
            due("down by HIGH " + high, x.water(0), 0);
            due("no LUMPS by HIGH " + high, x.water(1), 0);
            due("CAUGHT by HIGH " + high, x.water(2), 5);
            x.blows(11, 50);
            due("once alone by HIGH " + high, x.water(2), 5);
            due("thrown by HIGH " + high, x.water(5), 5);
        }
    }

    /** Half is 3: what drifted 399 hundredths is CAUGHT, with 400 it comes on the CELL; by each WAY. */
    private static void basinEdges() {
        String text = "square wide 21 long 23;jet at 10 11 half 3";
        for (int way = 0; way < 4; way++) {
            TableNine x = one(text, 1, 57, 2);
            due("399 by WAY " + way, x.blow(10 * way + 3) + x.blow(10 * way + 4), 0);
            due("CAUGHT by WAY " + way, x.water(2), 2);
            due("on CELLS by WAY " + way, x.water(4), 0);
            TableNine y = one(text, 1, 50, 2);
            due("400 ahead by WAY " + way, y.blow(10 * way + 4), 0);
            due("400 by WAY " + way, y.blow(10 * way + 4), 2);
            due("none CAUGHT by WAY " + way, y.water(2), 0);
            due("none LOST by WAY " + way, y.water(3), 0);
            due("on CELLS by WAY " + way, y.water(4), 2);
            due("WET by WAY " + way, y.wet(10 + 4 * DX[way], 11 + 4 * DY[way]), 2);
            due("WET of all by WAY " + way, y.sum(0, 0, 30, 30), 2);
        }
        // a corner of the basin, and the CELLS beside it
        int[][] corners = {{13, 23, 2, 0}, {14, 23, 0, 2}, {13, 24, 0, 2}, {33, 3, 2, 0}, {34, 3, 0, 2}, {33, 4, 0, 2}};
        for (int[] c : corners) {
            TableNine x = one("square wide 21 long 23;jet at 10 11 half 3", 1, 99, 2);
            x.blow(c[0]);
            x.blow(c[1]);
            // 3 times 99 is 297, 4 times 396: with half 2 and 3
            due("CAUGHT with half 3 by " + c[0] + " " + c[1], x.water(2), 2);
            TableNine y = one("square wide 21 long 23;jet at 10 11 half 2", 1, 99, 2);
            y.blow(c[0]);
            y.blow(c[1]);
            due("CAUGHT with half 2 by " + c[0] + " " + c[1], y.water(2), c[2]);
            due("on CELLS with half 2 by " + c[0] + " " + c[1], y.water(4), c[3]);
        }
        // without a basin the jet's own CELL catches, no other
        TableNine x = one("square wide 9 long 9;jet at 4 4 half 0", 1, 33, 1);
        due("99 hundredths", x.blow(11) + x.blow(12), 0);
        due("CAUGHT", x.water(2), 1);
        TableNine y = one("square wide 9 long 9;jet at 4 4 half 0", 1, 50, 1);
        due("100 hundredths", y.blow(11) + y.blow(11), 1);
        due("wet(5, 4)", y.wet(5, 4), 1);
    }

    /** From the CELL beside the last: 198 hundredths come on the last CELL, 200 are LOST. */
    private static void squareEdges() {
        int[][] jets = {{3, 1}, {5, 4}, {3, 7}, {1, 4}};
        for (int way = 0; way < 4; way++) {
            String text = "square wide 7 long 9;jet at " + jets[way][0] + " " + jets[way][1] + " half 0";
            TableNine x = one(text, 1, 99, 3);
            due("198 by WAY " + way, x.blow(10 * way + 1) + x.blow(10 * way + 1), 3);
            due("LOST by WAY " + way, x.water(3), 0);
            due("WET by WAY " + way, x.wet(jets[way][0] + DX[way], jets[way][1] + DY[way]), 3);
            TableNine y = one(text, 1, 50, 3);
            due("200 by WAY " + way, y.blow(10 * way + 2) + y.blow(10 * way + 2), 3);
            due("LOST beyond by WAY " + way, y.water(3), 3);
            due("none on CELLS by WAY " + way, y.water(4), 0);
            due("none WET by WAY " + way, y.wettest(0), -1);
            // the basin reaches beyond the square, and catches there, too
            TableNine z = one(text.replace("half 0", "half 2"), 1, 50, 3);
            due("200 in the basin by WAY " + way, z.blow(10 * way + 2) + z.blow(10 * way + 2), 0);
            due("CAUGHT beyond by WAY " + way, z.water(2), 3);
            due("none LOST by WAY " + way, z.water(3), 0);
        }
        // far beyond, as far as it can be: 99 times 9 in 22 BEATS
        TableNine x = one("square wide 30 long 30;jet at 29 29 half 9", 60, 99, 9);
        due("far beyond", x.blows(19, 22), 9);
        due("far beyond LOST", x.water(3), 9);
    }

    /** What drifts to and fro is summed first and cut then, towards 0, X and Y each by itself. */
    private static void cuts() {
        String text = "square wide 9 long 9;jet at 4 4 half 0";
        int[][] cases = {
            // drag, two WINDS, X, Y
            {50, 13, 25, 5, 6}, {50, 33, 5, 3, 2}, {50, 13, 5, 5, 2}, {99, 2, 31, 4, 3}, {99, 1, 32, 3, 4},
            {99, 35, 13, 3, 4}, {99, 25, 3, 4, 5}, {25, 19, 35, 5, 4}, {1, 19, 19, 4, 4}, {99, 2, 21, 4, 4},
        };
        for (int[] c : cases) {
            TableNine x = one(text, 1, c[0], 4);
            x.blow(c[1]);
            x.blow(c[2]);
            boolean caught = c[3] == 4 && c[4] == 4;
            String name = "drag " + c[0] + " by " + c[1] + ", " + c[2];
            due("CAUGHT: " + name, x.water(2), caught ? 4 : 0);
            due("WET: " + name, x.wet(c[3], c[4]), caught ? 0 : 4);
            due("WETTEST: " + name, x.wettest(0), caught ? -1 : c[3] + 100 * c[4]);
        }
    }

    private static void lags() {
        for (int lag = 0; lag <= 20; lag++) {
            TableNine x = Told.squareOf("square wide 9 long 9;jet at 4 4 half 0 high 60;vane lag " + lag + " climb 60;rule wind 5 high 7;");
            due("SEEN ahead of any BEAT", x.jet(3), -1);
            int show = 0;
            for (int beat = 0; beat < 45; beat++) {
                x.blow(windOf(beat));
                int seen = beat < lag ? 0 : windOf(beat - lag);
                show += seen % 10 < 5 ? 60 : 7;
                due("SEEN with lag " + lag + " in BEAT " + beat, x.jet(3), seen);
                due("HIGH with lag " + lag + " in BEAT " + beat, x.jet(0), seen % 10 < 5 ? 60 : 7);
                due("SHOW with lag " + lag + " in BEAT " + beat, x.jet(1), show);
                due("BEATS with lag " + lag, x.jet(2), beat + 1);
            }
        }
    }

    private static int windOf(int beat) {
        return (7 * beat + 19) % 40;
    }

    private static void climbs() {
        for (int climb : new int[] {1, 2, 29, 30, 31, 59, 60}) {
            TableNine x = Told.squareOf("square wide 9 long 9;jet at 4 4 half 0 high 60;vane lag 0 climb " + climb + ";rule wind 5 high 0;rule wind 6 high 9;");
            due("HIGH ahead of all", x.jet(0), 0);
            for (int beat = 1; beat <= 61; beat++) {
                x.blow(0);
                due("HIGH by climb " + climb + " in BEAT " + beat, x.jet(0), Math.min(60, beat * climb));
            }
            // it is let down at once, as far as may be
            x.blow(6);
            due("let down to 9", x.jet(0), 9);
            x.blow(5);
            due("let down to 0", x.jet(0), 0);
            x.blow(5);
            due("still 0", x.jet(0), 0);
            x.blow(0);
            due("up again by climb " + climb, x.jet(0), climb);
        }
    }

    /** Of the jet's high, the RULE's and climb, each is the least by one. */
    private static void leastHigh() {
        String text = "square wide 9 long 9;jet at 4 4 half 0 high ";
        int[][] cases = {{20, 21, 21, 20}, {21, 20, 21, 20}, {21, 21, 20, 20}, {20, 20, 20, 20}, {0, 60, 60, 0}, {60, 0, 60, 0}, {60, 60, 1, 1}, {60, 60, 60, 60}};
        for (int[] c : cases) {
            TableNine x = Told.squareOf(text + c[0] + ";rule wind 0 high " + c[1] + ";vane lag 0 climb " + c[2] + ";");
            x.blow(0);
            due("HIGH of " + c[0] + " " + c[1] + " " + c[2], x.jet(0), c[3]);
            due("lets(0) of " + c[0] + " " + c[1], x.lets(0), Math.min(c[0], c[1]));
        }
    }

    private static void rules() {
        TableNine x = Told.squareOf("square wide 9 long 9;jet at 4 4 half 0 high 40;rule wind 2 high 30;rule wind 3 high 50;rule wind 9 high 10;");
        int[] lets = {40, 40, 30, 40, 40, 40, 40, 40, 40, 10};
        for (int strength = 0; strength <= 9; strength++) {
            due("lets(" + strength + ")", x.lets(strength), lets[strength]);
            for (int way = 0; way < 4; way++) {
                x.blow(10 * way + strength);
                due("HIGH by " + way + strength, x.jet(0), lets[strength]);
            }
        }
        due("lets(10)", x.lets(10), -2);
        due("lets(-1)", x.lets(-1), -2);
        TableNine first = Told.squareOf("square wide 9 long 9;rule wind 0 high 5;");
        due("lets(0) by wind 0", first.lets(0), 5);
        due("lets(9) by wind 0", first.lets(9), 5);
        TableNine last = Told.squareOf("square wide 9 long 9;rule wind 9 high 5;");
        due("lets(8) by wind 9", last.lets(8), 30);
        due("lets(9) by wind 9", last.lets(9), 5);
    }

    /** By HIGH 0 nothing goes up. */
    private static void nothingUp() {
        TableNine x = Told.squareOf("square wide 9 long 9;jet at 4 4 half 0 high 0;size drag 99 share 9;table at 4 4 most 0;");
        due("blows(19, 400)", x.blows(19, 400), 0);
        for (int what = 0; what <= 5; what++) {
            due("water(" + what + ") by high 0", x.water(what), 0);
        }
        due("SHOW by high 0", x.jet(1), 0);
        due("BEATS by high 0", x.jet(2), 400);
        TableNine y = Told.squareOf("square wide 9 long 9;");
        due("blows(19, 400) of no SIZES", y.blows(19, 400), 0);
        for (int what = 0; what <= 5; what++) {
            due("water(" + what + ") of no SIZES", y.water(what), 0);
        }
        due("SHOW of no SIZES", y.jet(1), 12000);
        TableNine z = Told.squareOf("square wide 9 long 9;jet at 4 4 half 0 high 1;size drag 0 share 1;");
        z.blow(0);
        due("water(0) by high 1", z.water(0), 1);
        due("water(5) by high 1", z.water(5), 1);
    }

    /** The most that can be in the air: 22 LUMPS of 45 drops, as HIGH 60 flies 22 BEATS. */
    private static void fullAir() {
        StringBuilder text = new StringBuilder("square wide 9 long 9;jet at 4 4 half 0 high 60;");
        for (int i = 0; i < 5; i++) {
            text.append("size drag ").append(99 - i).append(" share 9;");
        }
        TableNine x = Told.squareOf(text.toString());
        for (int beat = 1; beat <= 60; beat++) {
            due("LOST in BEAT " + beat, x.blow(19), beat > 22 ? 45 : 0);
            due("LUMPS behind BEAT " + beat, x.water(1), Math.min(beat, 22));
            due("drops behind BEAT " + beat, x.water(0), 45 * Math.min(beat, 22));
            due("LOST behind BEAT " + beat, x.water(3), 45 * Math.max(0, beat - 22));
            due("thrown behind BEAT " + beat, x.water(5), 45 * beat);
        }
        // a LUMP of a higher HIGH comes down behind one that was thrown later
        TableNine y = Told.squareOf("square wide 9 long 9;jet at 4 4 half 0 high 60;size drag 0 share 1;rule wind 1 high 1;rule wind 2 high 0;");
        y.blow(0);
        y.blow(1);
        due("two LUMPS", y.water(1), 2);
        y.blows(2, 2);
        due("the later one is down", y.water(1), 1);
        y.blows(2, 18);
        due("the earlier one is up", y.water(0), 1);
        y.blow(2);
        due("both are down", y.water(2), 2);
    }

    /** HIGH 1 LANDS in the second BEAT behind: by WIND 19 all are LOST from the third on. */
    private static void blows() {
        String text = "square wide 9 long 9;jet at 4 4 half 0 high 1;size drag 99 share 7;";
        int[] counts = {0, 1, 2, 3, 4, 399, 400};
        for (int n : counts) {
            TableNine x = Told.squareOf(text);
            due("blows(19, " + n + ")", x.blows(19, n), 7 * Math.max(0, n - 2));
            due("BEATS of blows(19, " + n + ")", x.jet(2), n);
            TableNine y = Told.squareOf(text);
            due("gusts of " + n, y.gusts(0, 19, n, 50), 7 * Math.max(0, n - 2));
            due("BEATS of gusts of " + n, y.jet(2), n);
        }
        TableNine x = Told.squareOf(text);
        due("blows(19, 400)", x.blows(19, 400), 2786);
        due("blows(19, 400) again", x.blows(19, 400), 2800);
        due("blows(19, 401)", x.blows(19, 401), -2);
        due("blows(19, -1)", x.blows(19, -1), -2);
        due("blows(40, 1)", x.blows(40, 1), -2);
        due("blows(-1, 1)", x.blows(-1, 1), -2);
        due("BEATS", x.jet(2), 800);
        due("SEEN", x.jet(3), 19);
        // LOST and on CELLS count, CAUGHT does not
        TableNine y = Told.squareOf("square wide 5 long 5;jet at 2 2 half 0 high 1;size drag 0 share 1;size drag 50 share 2;size drag 99 share 4;");
        due("BEATS ahead of LANDING", y.blows(12, 2), 0);
        due("one LOST, one on a CELL, one CAUGHT", y.blow(12), 6);
        due("CAUGHT", y.water(2), 1);
        due("on CELLS", y.water(4), 2);
        due("LOST", y.water(3), 4);
    }

    /** 27 drops a BEAT are 999 behind 37, 40 a BEAT 1000 behind 25. */
    private static void over() {
        String text = "square wide 9 long 9;jet at 4 4 half 0 high 1;table at 5 4 most 999;table at 5 4 most 998;table at 4 5 most 0;";
        TableNine x = Told.squareOf(text + "size drag 50 share 9;".repeat(3));
        x.blows(11, 38);
        due("table(0, 3) of 972", x.table(0, 3), 972);
        due("over() of 972", x.over(), 0);
        due("BEAT 39", x.blow(11), 27);
        due("table(0, 3) of 999", x.table(0, 3), 999);
        due("over() of 999", x.over(), 2);
        TableNine y = Told.squareOf(text + "size drag 50 share 9;".repeat(4) + "size drag 50 share 4;");
        y.blows(11, 27);
        due("table(0, 3) of 1000", y.table(0, 3), 1000);
        due("over() of 1000", y.over(), 3);
        TableNine z = Told.squareOf(text + "size drag 50 share 1;");
        z.blows(21, 2);
        due("over() of 0", z.over(), 0);
        z.blow(21);
        due("table(2, 3) of 1", z.table(2, 3), 1);
        due("over() of 1", z.over(), 4);
        StringBuilder eight = new StringBuilder("square wide 9 long 9;jet at 4 4 half 0 high 1;size drag 50 share 4;");
        for (int i = 0; i < 8; i++) {
            eight.append("table at 5 4 most ").append(7 - i).append(";");
        }
        TableNine w = Told.squareOf(eight.toString());
        due("no TABLE over", w.over(), 0);
        w.blows(11, 3);
        due("over of eight by 4", w.over(), 0xf0);
        w.blow(11);
        due("over of eight by 8", w.over(), 0xff);
        due("over() of no TABLES", Told.squareOf("square wide 5 long 5;").over(), 0);
    }

    /** All that was thrown is in the air, CAUGHT, LOST or on CELLS. */
    private static void allWater() {
        TableNine x = Told.squareOf("square wide 5 long 5;jet at 2 2 half 0 high 1;size drag 0 share 1;size drag 50 share 2;size drag 99 share 4;");
        for (int beat = 1; beat <= 6; beat++) {
            x.blow(12);
            int down = Math.max(0, beat - 2);
            int[] due = {7 * (beat - down), beat - down, down, 4 * down, 2 * down, 7 * beat};
            for (int what = 0; what < 6; what++) {
                due("water(" + what + ") behind " + beat, x.water(what), due[what]);
            }
        }
    }

    private static void nozzles() {
        // from now on: one BEAT with 50, one with another drag
        int[][] cases = {{0, 2}, {99, 4}, {49, 3}, {50, 4}, {1, 2}};
        for (int[] c : cases) {
            TableNine x = one("square wide 30 long 5;jet at 10 2 half 0", 1, 50, 1);
            x.blow(14);
            due("nozzle(0, " + c[0] + ")", x.nozzle(0, c[0]), 50);
            due("coming by drag " + c[0], x.coming(14), 1);
            x.blow(14);
            due("LANDS by drag " + c[0], x.wettest(0), 200 + 10 + (200 + 4 * c[0]) / 100);
            due("nozzle back", x.nozzle(0, 50), c[0]);
        }
        // of five, the last one alone
        TableNine x = Told.squareOf("square wide 5 long 5;" + "size drag 9 share 1;".repeat(5));
        due("nozzle(4, 99)", x.nozzle(4, 99), 9);
        due("nozzle(5, 9)", x.nozzle(5, 9), -2);
        due("nozzle(-1, 9)", x.nozzle(-1, 9), -2);
        due("nozzle(4, 100)", x.nozzle(4, 100), -2);
        due("nozzle(4, -1)", x.nozzle(4, -1), -2);
        due("nozzle(4, 99) is the same", x.nozzle(4, 99), 99);
        due("nozzle(3, 0)", x.nozzle(3, 0), 9);
        due("nozzle of no SIZES", Told.squareOf("square wide 5 long 5;").nozzle(0, 0), -2);
    }

    /** The road has all CELLS of its Y, from X 0 to the last; no others. */
    private static void ice() {
        for (int road : new int[] {0, 6}) {
            TableNine x = Told.squareOf("square wide 5 long 7;jet at 2 " + road + " half 0 high 1;size drag 50 share 3;road " + road + ";");
            due("ice() of a dry road", x.ice(), 0);
            x.blows(14, 3);
            due("none on X 6", x.ice(), 0);
            x.blows(12, 3);
            due("wet(4, road)", x.wet(4, road) > 0 ? 1 : 0, 1);
            due("ice() on the last", x.ice(), x.sum(0, road, 30, 1));
            int before = x.ice();
            x.blows(32, 4);
            due("wet(0, road)", x.wet(0, road) > 0 ? 1 : 0, 1);
            due("ice() on the first", x.ice() - before, x.sum(0, road, 2, 1));
            // a row beside the road is none of it
            before = x.ice();
            x.blows(road == 0 ? 21 : 1, 5);
            due("none beside", x.wet(2, road == 0 ? 1 : 5) > 0 ? 1 : 0, 1);
            due("ice() beside", x.ice() - before, x.sum(0, road, 30, 1) - before);
        }
        due("ice() of no road", Told.squareOf("square wide 5 long 7;").ice(), -1);
        // of the greatest square: from X 0 to 29, not X 0 of the next row
        for (int road : new int[] {0, 28, 29}) {
            for (int y : new int[] {road, road + 1}) {
                for (int at : new int[] {0, 29}) {
                    if (y < 30) {
                        TableNine x = one("square wide 30 long 30;jet at " + (at == 0 ? 1 : 28) + " " + y + " half 0", 1, 50, 3, "road " + road + ";");
                        x.blows(at == 0 ? 31 : 11, 2);
                        due("wet at " + at + " " + y, x.wet(at, y), 3);
                        due("ice() of road " + road + " at " + at + " " + y, x.ice(), y == road ? 3 : 0);
                    }
                }
            }
        }
    }

    private static int draw(BigInteger seed, int n) {
        BigInteger x = seed;
        for (int i = 0; i < n; i++) {
            x = x.multiply(BigInteger.valueOf(1103515245)).add(BigInteger.valueOf(12345)).mod(BigInteger.ONE.shiftLeft(31));
        }
        return x.divide(BigInteger.valueOf(65536)).mod(BigInteger.valueOf(100)).intValue();
    }

    /** The WIND of the last BEAT tells the last draw: below odds it has STRENGTH 9. */
    private static void gusts() {
        for (int seed : new int[] {0, 1, 5, 1999999999, 2000000000}) {
            for (int n = 1; n <= 25; n++) {
                int draw = draw(BigInteger.valueOf(seed), n);
                TableNine x = Told.squareOf("square wide 9 long 9;");
                due("gusts not below", x.gusts(seed, 21, n, draw), 0);
                due("draw " + n + " of " + seed + " is not below " + draw, x.jet(3), 21);
                TableNine y = Told.squareOf("square wide 9 long 9;");
                due("gusts below", y.gusts(seed, 21, n, draw + 1), 0);
                due("draw " + n + " of " + seed + " is below " + (draw + 1), y.jet(3), 29);
            }
        }
        // the draw is 0 from seed 0: not below odds 0, below odds 1
        due("the first draw of seed 0", draw(BigInteger.ZERO, 1), 0);
        int most = 0;
        for (int seed = 0; seed < 2000 && most < 99; seed++) {
            most = draw(BigInteger.valueOf(seed), 1);
            if (most == 99) {
                TableNine x = Told.squareOf("square wide 9 long 9;");
                x.gusts(seed, 3, 1, 99);
                due("draw 99 is not below 99", x.jet(3), 3);
                x.gusts(seed, 3, 1, 100);
                due("draw 99 is below 100", x.jet(3), 9);
            }
        }
        due("a draw of 99 is found", most, 99);
        TableNine x = Told.squareOf("square wide 9 long 9;");
        int[] winds = {0, 9, 10, 19, 30, 39};
        for (int wind : winds) {
            x.gusts(7, wind, 3, 100);
            due("STRENGTH 9 of " + wind, x.jet(3), wind / 10 * 10 + 9);
            x.gusts(7, wind, 3, 0);
            due("as told of " + wind, x.jet(3), wind);
        }
    }

    private static void sums() {
        // (4, 2) has 2, (0, 2) 4 and (2, 0) 2 drops, the corners none
        TableNine x = Told.squareOf("square wide 5 long 5;jet at 2 2 half 0 high 1;size drag 50 share 2;vane lag 0 climb 60;rule wind 1 high 0;");
        x.blow(0);
        x.blows(12, 2);
        x.blow(0);
        x.blows(2, 2);
        x.blow(0);
        x.blows(32, 2);
        x.blow(0);
        x.blows(32, 2);
        due("wet(4, 2)", x.wet(4, 2), 2);
        due("wet(2, 0)", x.wet(2, 0), 2);
        due("wet(0, 2)", x.wet(0, 2), 4);
        due("sum of all", x.sum(0, 0, 30, 30), 8);
        due("sum of all that there are", x.sum(0, 0, 5, 5), 8);
        due("sum of one", x.sum(0, 2, 1, 1), 4);
        due("sum of four by wide", x.sum(0, 2, 4, 1), 4);
        due("sum of five by wide", x.sum(0, 2, 5, 1), 6);
        due("sum of six by wide", x.sum(0, 2, 6, 1), 6);
        due("sum from X 1", x.sum(1, 2, 4, 1), 2);
        due("sum of two by long", x.sum(0, 0, 1, 2), 0);
        due("sum of three by long", x.sum(0, 0, 1, 3), 4);
        due("sum from the last CELL", x.sum(4, 4, 30, 30), 0);
        due("sum from X 4", x.sum(4, 0, 30, 30), 2);
        due("sum from Y 1", x.sum(0, 1, 30, 30), 6);
        due("sum from Y 3", x.sum(0, 3, 30, 30), 0);
        due("wettest(0)", x.wettest(0), 200);
        due("wettest(1)", x.wettest(1), 4);
        // of like ones the first by Y, then X
        x.blow(0);
        x.blows(12, 2);
        due("(0, 2) and (4, 2) are like", x.wet(4, 2), 4);
        due("wettest(0) by X", x.wettest(0), 200);
        x.blow(0);
        x.blows(2, 2);
        due("(2, 0) is like them", x.wet(2, 0), 4);
        due("wettest(0) by Y", x.wettest(0), 2);
        x.blow(0);
        x.blows(12, 2);
        due("wettest(0) by WET", x.wettest(0), 204);
        due("wettest(1) by WET", x.wettest(1), 6);
        TableNine y = Told.squareOf("square wide 5 long 5;");
        due("wettest(0) of a dry square", y.wettest(0), -1);
        due("wettest(1) of a dry square", y.wettest(1), -1);
        due("sum of a dry square", y.sum(0, 0, 30, 30), 0);
        // the greatest square has a last CELL, too
        TableNine z = one("square wide 30 long 30;jet at 29 28 half 0", 1, 50, 1);
        z.blows(21, 2);
        due("wet(29, 29)", z.wet(29, 29), 1);
        due("sum(0, 0, 30, 30)", z.sum(0, 0, 30, 30), 1);
        due("sum(0, 0, 29, 30)", z.sum(0, 0, 29, 30), 0);
        due("sum(0, 0, 30, 29)", z.sum(0, 0, 30, 29), 0);
        due("sum(29, 29, 1, 1)", z.sum(29, 29, 1, 1), 1);
        due("wet(30, 29)", z.wet(30, 29), -2);
        due("wettest(0) of the last CELL", z.wettest(0), 2929);
        due("wettest(1) of one drop", z.wettest(1), 1);
    }

    private static void tables() {
        TableNine x = Told.squareOf("square wide 6 long 8;table at 0 7 most 0;table at 5 0 most 999;table at 3 4 most 7;");
        int[][] due = {{0, 7, 0, 0, -2}, {5, 0, 999, 0, -2}, {3, 4, 7, 0, -2}};
        for (int table = 0; table < 3; table++) {
            for (int what = 0; what < 5; what++) {
                due("table(" + table + ", " + what + ")", x.table(table, what), due[table][what]);
            }
            due("table(" + table + ", -1)", x.table(table, -1), -2);
        }
        due("table(3, 0)", x.table(3, 0), -2);
        due("table(-1, 0)", x.table(-1, 0), -2);
        due("table(0, 0) of no TABLES", Told.squareOf("square wide 5 long 5;").table(0, 0), -2);
        // a TABLE in the basin is never WET
        TableNine y = Told.squareOf("square wide 9 long 9;jet at 4 4 half 1 high 1;size drag 50 share 1;table at 5 4 most 0;");
        y.blows(11, 9);
        due("CAUGHT", y.water(2), 7);
        due("table(0, 3) in the basin", y.table(0, 3), 0);
        due("over() in the basin", y.over(), 0);
    }

    public static void main(String[] args) {
        paces();
        flights();
        basinEdges();
        squareEdges();
        cuts();
        lags();
        climbs();
        leastHigh();
        rules();
        nothingUp();
        fullAir();
        blows();
        over();
        allWater();
        nozzles();
        ice();
        gusts();
        sums();
        tables();
        told.close("BeatBoundsTest");
    }
}
