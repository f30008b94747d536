import java.util.Arrays;

/** The bounds of DAYS: Terms III, promises 9, 25 to 30, 34, 44 to 48, 53 to 58 and 60. */
final class DayBoundsTest {
    private static final int NOTHING = -1000000;
    private static final String NINE = "square wide 9 long 9;";
    /** HIGH 1 flies 2 BEATS; by WIND 11 drops come 1 CELL off, on the TABLE. */
    private static final String LOW = NINE + "jet at 4 4 half 0 high 1;size drag 50 share 1;table at 5 4 most 0;";
    /** By STRENGTH 0 a LUMP goes up, by any other none. */
    private static final String ONE = LOW + "rule wind 1 high 0;";
    private static final String STRONG = "rule wind 5 high 0;";

    private static final Told told = new Told();

    private static void due(String call, long got, long want) {
        told.due(call, got, want);
    }

    private static TableNine told(String text, int... winds) {
        TableNine x = Told.squareOf(text);
        Told.rowOf(x, 0, winds);
        return x;
    }

    /** ONE with a LUMP in the air. */
    private static TableNine thrown(String text, int... winds) {
        TableNine x = told(text, winds);
        x.blow(0);
        due("a LUMP is up", x.water(1), 1);
        return x;
    }

    private static int[] many(int n, int wind) {
        int[] winds = new int[n];
        Arrays.fill(winds, wind);
        return winds;
    }

    private static void thoughts(String name, TableNine x, int... due) {
        for (int what = 0; what < 6; what++) {
            due("thought(0, " + what + ") of " + name, x.thought(0, what), due[what]);
            due("lagged(0, lag, " + what + ") of " + name, x.lagged(0, x.count(9), what), due[what]);
            due("two(0, lag, " + what + ") of " + name, x.two(0, x.count(9), what), due[what]);
            due("climbs(0, climb, " + what + ") of " + name, x.climbs(0, x.count(10), what), due[what]);
            due("week(0, 1, " + what + ") of " + name, x.week(0, 1, what), due[what]);
        }
        for (int what : new int[] {-1, 6}) {
            due("thought(0, " + what + ")", x.thought(0, what), NOTHING);
            due("lagged(0, 0, " + what + ")", x.lagged(0, 0, what), NOTHING);
            due("two(0, 0, " + what + ")", x.two(0, 0, what), NOTHING);
            due("climbs(0, 1, " + what + ")", x.climbs(0, 1, what), NOTHING);
            due("week(0, 1, " + what + ")", x.week(0, 1, what), NOTHING);
        }
    }

    private static void inThought() {
        // SHOW, LOST, on CELLS, over, WET, CAUGHT
        thoughts("no numbers", told(LOW), 0, 0, 0, 0, 0, 0);
        thoughts("no numbers, a LUMP up", thrown(ONE), 0, 0, 0, 0, 0, 1);
        thoughts("one BEAT", told(LOW, 11), 1, 0, 0, 0, 0, 1);
        thoughts("two BEATS", told(LOW, 11, 11), 2, 0, 0, 0, 0, 2);
        thoughts("three BEATS", told(LOW, 11, 11, 11), 3, 0, 1, 1, 1, 2);
        thoughts("a full row", told(LOW, many(60, 11)), 60, 0, 58, 1, 58, 2);
        thoughts("WIND 39", told(LOW, many(3, 39)), 3, 1, 1, 0, 0, 1);
        thoughts("WIND 0", told(LOW, many(60, 0)), 60, 0, 0, 0, 0, 60);
        // behind the row WIND 0 blows and nothing goes up: what hangs over the TABLE comes on it
        TableNine x = thrown(ONE, 12);
        thoughts("what hangs over the TABLE", x, 0, 0, 1, 1, 1, 0);
        x.blow(12);
        Told.rowOf(x, 0);
        thoughts("what hangs over it, no numbers", x, 0, 0, 1, 1, 1, 0);
        x.blow(10);
        thoughts("what came on it already", x, 0, 0, 0, 1, 0, 1);
        // WET as most says is not over
        thoughts("most 1", told(LOW.replace("most 0", "most 1"), 11, 11, 11), 3, 0, 1, 0, 1, 2);
        thoughts("most 1, one more", told(LOW.replace("most 0", "most 1"), 11, 11, 11, 11), 4, 0, 2, 1, 2, 2);
        // no SIZES, no TABLES, no HIGH
        thoughts("no SIZES", told(NINE, 11, 11), 60, 0, 0, 0, 0, 0);
        thoughts("high 0", told(LOW.replace("high 1", "high 0"), 11, 11, 11), 0, 0, 0, 0, 0, 0);
        // what was LOST, CAUGHT, on CELLS, SHOW and WET ahead is not more
        TableNine y = told(LOW, 11, 11, 11);
        y.blows(19, 5);
        y.blows(11, 5);
        y.blows(0, 4);
        due("LOST ahead", y.water(3) > 0 ? 1 : 0, 1);
        due("CAUGHT ahead", y.water(2) > 0 ? 1 : 0, 1);
        due("WET ahead", y.table(0, 3) > 1 ? 1 : 0, 1);
        thoughts("what was ahead", y, 3, 0, 2, 1, 2, 3);
        // WET of all TABLES, each by itself
        thoughts("two TABLES", told(LOW + "table at 5 4 most 9;table at 4 4 most 0;", 11, 11, 11), 3, 0, 1, 1, 2, 2);
    }

    /** BEATS of a row, or none at all: a number that is no WIND is asked last. */
    private static void day() {
        TableNine x = told(LOW);
        due("day(0) of no numbers", x.day(0), 0);
        due("BEATS of no numbers", x.jet(2), 0);
        due("SEEN of no numbers", x.jet(3), -1);
        due("day(1) of nothing", x.day(1), -6);
        due("day(4)", x.day(4), -2);
        due("day(-1)", x.day(-1), -2);
        Told.rowOf(x, 0, many(60, 11));
        due("day(0) of a full row", x.day(0), 58);
        due("BEATS of a full row", x.jet(2), 60);
        due("day(0) again", x.day(0), 60);
        due("WET behind it", x.table(0, 3), 118);
        for (int wrong : new int[] {-1, 40, 127, 128, 255, -128, 65535, 65536 * 2}) {
            for (int at : new int[] {0, 30, 59}) {
                int[] winds = many(60, 11);
                winds[at] = wrong;
                Told.rowOf(x, 0, winds);
                due("day(0) with " + wrong + " at " + at, x.day(0), -2);
                due("thought(0, 0) with " + wrong, x.thought(0, 0), NOTHING);
                due("nothing happens", x.jet(2), 120);
            }
        }
        // what has drifted half a CELL is CAUGHT by WIND 0, by WIND 39 it comes 4 CELLS off
        Told.rowOf(x, 0, 0);
        due("day(0) of WIND 0", x.day(0), 0);
        due("SEEN", x.jet(3), 0);
        x.blows(11, 2);
        Told.rowOf(x, 0, 39);
        due("day(0) of WIND 39", x.day(0), 1);
        due("SEEN", x.jet(3), 39);
        // the SLOT's row is as it was: it can be played again
        Told.rowOf(x, 3, 5, 6, 7);
        due("day(3)", x.day(3) >= 0 ? 1 : 0, 1);
        due("day(3) again", x.day(3) >= 0 ? 1 : 0, 1);
        due("SEEN last", x.jet(3), 7);
    }

    /** The WIND of 20 BEATS ahead is the only strong one, or the only weak one. */
    private static void lags() {
        String text = NINE + "jet at 4 4 half 0 high 10;" + STRONG;
        for (int ahead = 0; ahead <= 30; ahead++) {
            TableNine x = told(text, 0);
            x.blow(5);
            x.blows(0, ahead);
            for (int lag = 0; lag <= 20; lag++) {
                due("lagged by " + lag + ", strong " + (ahead + 1) + " ahead", x.lagged(0, lag, 0), lag == ahead + 1 ? 0 : 10);
                due("two by " + lag + ", strong " + (ahead + 1) + " ahead", x.two(0, lag, 0), lag == ahead + 1 ? 0 : 10);
            }
            due("lagged by 21", x.lagged(0, 21, 0), NOTHING);
            due("lagged by -1", x.lagged(0, -1, 0), NOTHING);
            due("two by 21", x.two(0, 21, 0), NOTHING);
            due("two by -1", x.two(0, -1, 0), NOTHING);
            due("best, strong ahead", x.best(0), 0);
            TableNine y = told(text, 5);
            y.blow(0);
            y.blows(5, ahead);
            // as there was no BEAT farther ahead, WIND 0 is SEEN by a greater lag
            due("best, weak ahead", y.best(0), ahead < 20 ? ahead + 1 : 0);
            due("worth by lag 0", y.worth(0), 0);
        }
        TableNine x = told(text + "vane lag 20 climb 60;", 5);
        x.blow(0);
        x.blows(5, 19);
        due("best by lag 20", x.best(0), 20);
        due("worth of losing that", x.worth(0), -10);
        due("lag stays", x.count(9), 20);
        x.blow(5);
        due("worth of nothing", x.worth(0), 0);
        TableNine z = told(text + "vane lag 20 climb 60;", 0);
        z.blow(5);
        z.blows(0, 19);
        due("worth of gaining", z.worth(0), 10);
        due("worth(1) of nothing", z.worth(1), NOTHING);
        due("worth(4)", z.worth(4), NOTHING);
        due("worth(-1)", z.worth(-1), NOTHING);
    }

    /** WET of TABLES is taken off: what is thrown comes there. */
    private static void worthByWet() {
        TableNine x = told(LOW + "size drag 50 share 9;rule wind 1 high 0;vane lag 1 climb 60;", 0, 11, 11, 11);
        // lag 1: HIGHS 1 1 0 0: the first comes there by BEATS 11, 11, and so does the second
        due("SHOW by lag 1", x.thought(0, 0), 2);
        due("WET by lag 1", x.thought(0, 4), 20);
        due("SHOW by lag 0", x.lagged(0, 0, 0), 1);
        due("WET by lag 0", x.lagged(0, 0, 4), 10);
        due("worth", x.worth(0), 1 - 10 - (2 - 20));
        due("best", x.best(0), 0);
    }

    private static void twoVanes() {
        String text = NINE + "jet at 4 4 half 0 high 10;rule wind 3 high 6;rule wind 4 high 2;vane lag 1 climb 60;";
        // ahead: 3, then 4; the row: 0
        TableNine x = told(text, 0);
        x.blow(3);
        x.blow(24);
        due("the first vane sees 4", x.thought(0, 0), 2);
        due("a second one of lag 0", x.two(0, 0, 0), 2);
        due("a second one of lag 2", x.two(0, 2, 0), 2);
        due("a second one alone, lag 2", x.lagged(0, 2, 0), 6);
        TableNine y = told(text, 0);
        y.blow(4);
        y.blow(23);
        due("the first vane sees 3", y.thought(0, 0), 6);
        due("a second one sees less", y.two(0, 0, 0), 6);
        due("a second one sees more", y.two(0, 2, 0), 2);
        due("a second one sees none", y.two(0, 20, 0), 6);
        due("a second one of the same lag", y.two(0, 1, 0), 6);
    }

    private static void climbs() {
        TableNine x = told(NINE + "jet at 4 4 half 0 high 60;", many(60, 0));
        due("climb 1", x.climbs(0, 1, 0), 60 * 61 / 2);
        due("climb 59", x.climbs(0, 59, 0), 59 + 59 * 60);
        due("climb 60", x.climbs(0, 60, 0), 3600);
        due("climb 0", x.climbs(0, 0, 0), NOTHING);
        due("climb 61", x.climbs(0, 61, 0), NOTHING);
        due("climb stays", x.count(10), 60);
        x.blow(0);
        due("climb 1 from 60", x.climbs(0, 1, 0), 3600);
    }

    private static void weeks() {
        TableNine x = told(LOW, many(60, 11));
        for (int k = 1; k <= 10; k++) {
            due("SHOW of " + k, x.week(0, k, 0), 60 * k);
            due("WET of " + k, x.week(0, k, 4), 60 * k - 2);
            due("CAUGHT of " + k, x.week(0, k, 5), 2);
        }
        due("week(0, 0, 0)", x.week(0, 0, 0), NOTHING);
        due("week(0, 11, 0)", x.week(0, 11, 0), NOTHING);
        due("week(1, 1, 0)", x.week(1, 1, 0), NOTHING);
        Told.rowOf(x, 0);
        due("ten times no numbers", x.week(0, 10, 0), 0);
        // one behind the other: what goes up in one comes down in the next
        Told.rowOf(x, 0, 11);
        due("WET of one BEAT, twice", x.week(0, 2, 4), 0);
        due("WET of one BEAT, three times", x.week(0, 3, 4), 1);
        due("all stays", x.jet(2), 0);
    }

    private static void most() {
        // with three BEATS one drop comes there, whatever the HIGH, if any goes up
        due("most 0", told(LOW, 11, 11, 11).most(0, 0), 0);
        due("most 1", told(LOW.replace("most 0", "most 1"), 11, 11, 11).most(0, 0), 60);
        due("most 1, two drops", told(LOW.replace("most 0", "most 1"), 11, 11, 11, 11).most(0, 0), 0);
        due("no numbers", told(LOW).most(0, 0), 60);
        due("one thrown in each BEAT", told(LOW, 0, 0, 0, 12).most(0, 0), 0);
        // to and fro; HIGH 1 is down ahead of WIND 12, what goes higher is still up and comes there
        due("as high as 1", told(ONE, 0, 11, 31, 12).most(0, 0), 1);
        due("as high as 3", told(ONE, 0, 11, 31, 11, 31, 12).most(0, 0), 3);
        // what is up already comes there all the same
        TableNine x = thrown(ONE, 11, 11);
        due("none", x.most(0, 0), -1);
        due("none of another TABLE", x.most(0, 1), -2);
        x.blows(11, 2);
        due("WET 1", x.table(0, 3), 1);
        due("just as WET as it is", x.most(0, 0), 60);
        x.blow(0);
        due("WETTER than it is", x.most(0, 0), -1);
        due("most(0, -1)", x.most(0, -1), -2);
        due("most(1, 0) of nothing", x.most(1, 0), -6);
        due("the jet's high stays", x.count(8), 1);
    }

    private static void rule() {
        String none = NINE + "size drag 50 share 1;jet at 4 4 half 0 high ";
        int[][] highs = {{0, 0}, {1, 10}, {9, 10}, {10, 10}, {11, 20}, {30, 30}, {50, 50}, {51, 60}, {60, 60}};
        for (int[] h : highs) {
            due("rule with high " + h[0], told(none + h[0] + ";", 3, 3).rule(0), h[1]);
            // RULES that are there don't hold then
            due("rule in place of others, high " + h[0], told(none + h[0] + ";rule wind 0 high 0;", 3, 3).rule(0), h[1]);
        }
        due("rule of no numbers", told(none + "30;").rule(0), 0);
        // what the first strong BEAT throws comes on the TABLE, what the BEAT ahead throws flies beyond
        String sized = NINE + "jet at 4 4 half 0 high 60;table at 5 4 most 0;size drag ";
        for (int wind = 2; wind <= 9; wind++) {
            TableNine x = told(sized + (100 / wind + 1) + " share 1;", wind - 1, 10 + wind, 10 + wind, 30, 30);
            due("rule by wind " + wind, x.rule(0), 100 * wind);
            TableNine y = told(sized + (100 / wind + 1) + " share 1;rule wind 0 high 0;rule wind 9 high 60;", wind - 1, 10 + wind, 10 + wind, 30, 30);
            due("rule by wind " + wind + " in place of all", y.rule(0), 100 * wind);
        }
        due("rule by wind 1", told(sized + "99 share 1;", 0, 11, 11, 11, 30).rule(0), 100);
        // if nothing may go up at all, wind 0 is the least
        due("rule by wind 0", told(sized + "50 share 1;", 11, 11, 11).rule(0), 0);
        // a TABLE that is over already, or will be, whatever the RULE
        TableNine x = thrown(ONE, 11, 11);
        due("rule of what is up", x.rule(0), -1);
        x.day(0);
        due("rule of what is over", x.rule(0), -1);
        due("RULES stay", x.count(4), 1);
        due("rule(1) of nothing", x.rule(1), -6);
        due("rule(4)", x.rule(4), -2);
    }

    /** One LUMP of 9 drops in the air comes down so many CELLS off. */
    private static TableNine far(int drag, int share, int... winds) {
        return thrown("square wide 30 long 5;jet at 10 2 half 0 high 1;size drag " + drag + " share " + share + ";rule wind 1 high 0;", winds);
    }

    private static void half() {
        for (int cells = 1; cells <= 9; cells++) {
            TableNine x = far(50, 9, 10 + cells, 10 + cells);
            due(cells + " CELLS off, n 0", x.half(0, 0), cells);
            due(cells + " CELLS off, n 8", x.half(0, 8), cells);
            due(cells + " CELLS off, n 9", x.half(0, 9), 0);
            due(cells + " CELLS off, n 9999", x.half(0, 9999), 0);
            due("half stays", x.count(7), 0);
        }
        TableNine x = far(56, 9, 19, 19);
        due("10 CELLS off, n 8", x.half(0, 8), -1);
        due("10 CELLS off, n 9", x.half(0, 9), 0);
        due("half(0, -1)", x.half(0, -1), -2);
        due("half(0, 10000)", x.half(0, 10000), -2);
        due("half(1, 0)", x.half(1, 0), -6);
        // LOST counts, too; in the basin beyond the square it is CAUGHT
        TableNine y = thrown("square wide 5 long 5;jet at 4 2 half 0 high 1;size drag 50 share 9;rule wind 1 high 0;", 13, 13);
        due("LOST, n 0", y.half(0, 0), 3);
        due("LOST, n 9", y.half(0, 9), 0);
        due("half of no numbers", told(LOW).half(0, 0), 0);
        // behind the row, too
        due("behind the row", far(50, 1, 14).half(0, 0), 2);
    }

    private static void shut() {
        String road = LOW + "road 4;";
        TableNine x = told(road, 11, 11, 11, 11, 11);
        due("shut(0, 1)", x.shut(0, 1), 3);
        due("shut(0, 2)", x.shut(0, 2), 4);
        due("shut(0, 3)", x.shut(0, 3), 5);
        due("shut(0, 4): not by it", x.shut(0, 4), -1);
        due("shut(0, 9999)", x.shut(0, 9999), -1);
        due("shut(0, 0)", x.shut(0, 0), -2);
        due("shut(0, 10000)", x.shut(0, 10000), -2);
        due("shut(1, 1)", x.shut(1, 1), -6);
        Told.rowOf(x, 0, many(60, 11));
        due("in the last BEAT", x.shut(0, 58), 60);
        due("behind the last BEAT", x.shut(0, 59), -1);
        x.day(0);
        due("behind no BEATS", x.shut(0, 58), 0);
        due("behind one", x.shut(0, 59), 1);
        Told.rowOf(x, 0);
        due("no numbers, there are so many", x.shut(0, 58), 0);
        due("no numbers, there are not", x.shut(0, 59), -1);
        // no road, and one beside
        due("no road", told(LOW, 11, 11, 11).shut(0, 1), -1);
        due("no road, no numbers", told(LOW).shut(0, 1), -1);
        due("no road, a number that is no WIND", told(LOW, 40).shut(0, 1), -2);
        due("the road beside", told(LOW + "road 5;", 11, 11, 11).shut(0, 1), -1);
        // what comes down behind the row doesn't count
        due("what hangs over the road", thrown(ONE + "road 4;", 12).shut(0, 1), -1);
    }

    private static void first() {
        TableNine x = told(LOW + "table at 6 4 most 0;", 11, 11, 11, 11);
        due("first(0, 0)", x.first(0, 0), 3);
        due("first(0, 1)", x.first(0, 1), -1);
        due("first(0, 2)", x.first(0, 2), -2);
        due("first(0, -1)", x.first(0, -1), -2);
        due("first(1, 0)", x.first(1, 0), -6);
        x.day(0);
        due("WET now", x.table(0, 3), 2);
        due("WETTER than now", x.first(0, 0), 1);
        Told.rowOf(x, 0, 30, 30, 30, 11, 11, 11);
        due("later", x.first(0, 0), 5);
        int[] winds = many(60, 30);
        Arrays.fill(winds, 58, 60, 11);
        Told.rowOf(x, 0, winds);
        due("in the last BEAT of a full row", x.first(0, 0), 60);
        winds[58] = 30;
        Told.rowOf(x, 0, winds);
        due("not in the last BEAT", x.first(0, 0), -1);
        Told.rowOf(x, 0);
        due("no numbers", x.first(0, 0), -1);
        due("behind the row", thrown(ONE, 12).first(0, 0), -1);
        due("in the basin", told(LOW.replace("at 5 4", "at 4 4"), 0, 0, 0).first(0, 0), -1);
    }

    private static void wearAndIdle() {
        String text = NINE + "jet at 4 4 half 0 high 60;rule wind 1 high 59;rule wind 2 high 1;rule wind 3 high 0;";
        TableNine x = told(text);
        due("wear of no numbers", x.wear(0), 0);
        due("idle of no numbers", x.idle(0), 0);
        int[][] cases = {{0, 60, 0}, {1, 59, 0}, {2, 1, 0}, {3, 0, 1}};
        for (int[] c : cases) {
            Told.rowOf(x, 0, c[0]);
            due("wear by STRENGTH " + c[0], x.wear(0), c[1]);
            due("idle by STRENGTH " + c[0], x.idle(0), c[2]);
        }
        Told.rowOf(x, 0, 0, 3, 0, 3);
        due("wear up and down", x.wear(0), 240);
        due("idle up and down", x.idle(0), 2);
        int[] winds = many(60, 3);
        Told.rowOf(x, 0, winds);
        due("idle of a full row", x.idle(0), 60);
        due("wear of a full row", x.wear(0), 0);
        for (int i = 0; i < 60; i += 2) {
            winds[i] = 0;
        }
        Told.rowOf(x, 0, winds);
        due("wear of a restless row", x.wear(0), 3600);
        // the first BEAT is held to the one ahead of the row
        x.blow(0);
        Told.rowOf(x, 0, 0);
        due("wear of the same HIGH", x.wear(0), 0);
        Told.rowOf(x, 0, 1);
        due("wear of one lower", x.wear(0), 1);
        Told.rowOf(x, 0, 3);
        due("wear of 60 lower", x.wear(0), 60);
        due("wear(1)", x.wear(1), -6);
        due("idle(1)", x.idle(1), -6);
        due("wear(4)", x.wear(4), -2);
        due("idle(-1)", x.idle(-1), -2);
    }

    /** A thought leaves nothing behind for the next one, whichever it is. */
    private static void eachByItself() {
        TableNine x = told(LOW + "road 4;rule wind 1 high 1;rule wind 3 high 0;vane lag 1 climb 1;", 11, 13, 0, 12, 11);
        x.blows(11, 4);
        x.blows(13, 2);
        int calls = 19;
        int[] due = new int[calls];
        for (int i = 0; i < calls; i++) {
            due[i] = think(x, i);
        }
        for (int i = 0; i < calls; i++) {
            for (int j = 0; j < calls; j++) {
                think(x, j);
                due("thought " + i + " behind thought " + j, think(x, i), due[i]);
            }
        }
        due("all stays", x.jet(2), 6);
    }

    private static int think(TableNine x, int call) {
        switch (call) {
            case 0: return x.thought(0, 0);
            case 1: return x.lagged(0, 20, 0);
            case 2: return x.two(0, 3, 0);
            case 3: return x.climbs(0, 60, 0);
            case 4: return x.week(0, 10, 5);
            case 5: return x.worth(0);
            case 6: return x.most(0, 0);
            case 7: return x.rule(0);
            case 8: return x.half(0, 1);
            case 9: return x.shut(0, 3);
            case 10: return x.wear(0);
            case 11: return x.idle(0);
            case 12: return x.first(0, 0);
            case 13: return x.best(0);
            case 14: return x.stand(0, 2);
            case 15: return x.tall(0, 3);
            case 16: return x.pays(0, 9);
            case 17: return x.dry(0);
            default: return x.often(0, 7, 5, 11, 9, 50);
        }
    }

    private static void stand() {
        // all are like: the first CELL by Y, then X, that there is
        int[][] jets = {{4, 4}, {0, 0}, {8, 8}, {1, 7}, {8, 2}};
        for (int[] j : jets) {
            TableNine x = told(NINE + "jet at " + j[0] + " " + j[1] + " half 0 high 1;size drag 0 share 1;table at 4 3 most 0;", 0, 0, 0);
            for (int d = 0; d <= 3; d++) {
                due("stand(0, " + d + ") from " + j[0] + " " + j[1], x.stand(0, d), Math.max(0, j[0] - d) + 100 * Math.max(0, j[1] - d));
            }
            due("stand(0, 4)", x.stand(0, 4), -2);
            due("stand(0, -1)", x.stand(0, -1), -2);
            due("stand(1, 0)", x.stand(1, 0), -6);
        }
        // what is up comes from where it was thrown, and on the TABLE, if the basin is not there
        TableNine x = thrown(ONE, 11, 11);
        due("stand with d 0", x.stand(0, 0), 404);
        due("stand in the TABLE's place", x.stand(0, 1), 405);
        due("stand in the TABLE's place, d 3", x.stand(0, 3), 405);
        due("the jet stays", x.land(0, 1, 0), 404);
        // with half 1 the basin is there from any CELL beside the TABLE's
        TableNine y = thrown(ONE.replace("half 0", "half 1").replace("at 5 4", "at 6 4"), 12, 12);
        due("stand with its basin, d 1", y.stand(0, 1), 305);
        due("stand with its basin, d 0", y.stand(0, 0), 404);
        // less WET is better, though no TABLE is over by any
        TableNine less = told(LOW.replace("most 0", "most 999") + "table at 4 3 most 999;", 11, 11, 11, 11);
        due("no TABLE over", less.thought(0, 3), 0);
        due("stand by WET", less.stand(0, 1), 304);
        // the only good one is the last: TABLES are 1 off from all the others
        StringBuilder tables = new StringBuilder(NINE + "jet at 4 4 half 0 high 1;size drag 50 share 1;");
        int[][] at = {{4, 3}, {5, 3}, {6, 3}, {4, 4}, {5, 4}, {6, 4}, {4, 5}, {5, 5}};
        for (int[] t : at) {
            tables.append("table at ").append(t[0]).append(' ').append(t[1]).append(" most 0;");
        }
        TableNine z = told(tables.toString(), 11, 11, 11);
        due("stand on the last CELL", z.stand(0, 1), 505);
        due("stand of two off", z.stand(0, 2), 202);
    }

    private static void tall() {
        TableNine x = told(LOW, 11, 11, 11);
        due("tall(0, 0)", x.tall(0, 0), 0);
        due("tall(0, 1)", x.tall(0, 1), 60);
        due("tall(0, 9999)", x.tall(0, 9999), 60);
        due("tall(0, -1)", x.tall(0, -1), -2);
        due("tall(0, 10000)", x.tall(0, 10000), -2);
        due("tall(1, 0)", x.tall(1, 0), -6);
        due("the jet's high stays", x.count(8), 1);
        // one LUMP: to HIGH 3 it is down ahead of the strong BEAT
        TableNine y = told(LOW + "rule wind 1 high 0;size drag 50 share 8;", 0, 11, 31, 11, 31, 19);
        due("tall, n 0", y.tall(0, 0), 3);
        due("tall, n 8", y.tall(0, 8), 3);
        due("tall, n 9", y.tall(0, 9), 60);
        // of several the least
        TableNine z = told(LOW + "rule wind 0 high 20;", 0, 0, 0);
        due("tall by a RULE", z.tall(0, 0), 20);
        due("tall by climb", told(LOW + "vane lag 0 climb 5;", 0, 0, 0).tall(0, 0), 15);
        due("tall of no numbers", told(LOW).tall(0, 0), 0);
        TableNine up = thrown(ONE, 12, 12);
        due("none", up.tall(0, 0), -1);
        due("one", up.tall(0, 1), 0);
    }

    private static void pays() {
        // of two BEATS' LUMPS one is LOST: twice high less 2 times price
        TableNine x = told(NINE + "jet at 4 4 half 0 high 1;size drag 99 share 2;", 19, 19);
        int[][] prices = {{0, 60}, {1, 60}, {59, 60}, {60, 0}, {61, 0}, {99, 0}, {100, -2}, {-1, -2}};
        for (int[] p : prices) {
            due("pays(0, " + p[0] + ")", x.pays(0, p[0]), p[1]);
        }
        due("pays(1, 0)", x.pays(1, 0), -6);
        due("the jet's high stays", x.count(8), 1);
        due("pays of no numbers", told(LOW).pays(0, 99), 0);
        due("pays by a RULE", told(LOW + "rule wind 0 high 20;", 0, 0).pays(0, 99), 20);
        // LOST alone has a price, what comes on CELLS has none
        due("pays on CELLS", told(LOW, 11, 11, 11).pays(0, 99), 60);
        // what is up and will be LOST costs the same by each high
        due("pays for what is up", thrown(ONE, 19, 19).pays(0, 99), 0);
        due("pays for what is up and goes on", thrown(NINE + "jet at 4 4 half 0 high 1;size drag 99 share 1;rule wind 9 high 0;", 19, 19, 0).pays(0, 99), 60);
    }

    private static void dry() {
        due("dry of no TABLES", told(NINE, 0).dry(0), 0);
        due("dry of no numbers", told(LOW).dry(0), 1);
        TableNine x = told(LOW + "table at 6 4 most 0;table at 4 4 most 0;", 11, 11, 11);
        due("dry of three BEATS", x.dry(0), 6);
        Told.rowOf(x, 0, 11, 11);
        due("dry of two BEATS", x.dry(0), 7);
        Told.rowOf(x, 0, 12, 12, 12);
        // the first LUMP comes 2 off, the second hangs 1 off
        due("dry by WIND 12", x.dry(0), 4);
        x.day(0);
        Told.rowOf(x, 0, 0, 0, 0);
        due("WET now", x.table(1, 3), 1);
        due("no WETTER than now", x.dry(0), 2 + 4);
        due("dry(1)", x.dry(1), -6);
        due("dry(4)", x.dry(4), -2);
        TableNine y = told(NINE + "size drag 99 share 9;" + "table at 0 0 most 0;".repeat(8), 19, 19);
        due("dry of eight", y.dry(0), 255);
    }

    private static void often() {
        TableNine x = told(LOW);
        due("behind 2 BEATS", x.often(0, 0, 20, 11, 2, 0), 0);
        due("behind 3 BEATS", x.often(0, 0, 20, 11, 3, 0), 20);
        due("one day", x.often(0, 0, 1, 11, 3, 0), 1);
        due("none of 21", x.often(0, 0, 21, 11, 3, 0), -2);
        due("none of 0", x.often(0, 0, 0, 11, 3, 0), -2);
        due("no BEATS", x.often(0, 0, 20, 11, 0, 0), 0);
        due("400 BEATS", x.often(0, 2000000000, 20, 11, 400, 0), 20);
        due("401 BEATS", x.often(0, 0, 20, 11, 401, 0), -2);
        due("by gusts alone", x.often(0, 0, 20, 11, 400, 100), 0);
        due("all stays", x.jet(2), 0);
        x.blows(11, 3);
        due("over already", x.often(0, 0, 20, 11, 0, 0), 20);
        // each from now: WET of one day is not that of the next
        TableNine y = told(LOW.replace("most 0", "most 1"));
        due("one drop a day", y.often(0, 0, 20, 11, 3, 0), 0);
        due("two drops a day", y.often(0, 0, 20, 11, 4, 0), 20);
        // what is in the air behind the BEATS doesn't count
        due("what hangs over the TABLE", thrown(ONE).often(0, 0, 20, 12, 1, 0), 0);
        due("what came down", thrown(ONE).often(0, 0, 20, 11, 2, 0), 20);
        // from seed 0 the first draw is 0, from seed 1 it is 38
        due("odds 0", x.often(0, 0, 1, 11, 0, 0), 1);
        TableNine z = thrown(ONE.replace("at 5 4", "at 8 4"));
        due("a gust from seed 0", z.often(0, 0, 1, 10, 2, 1), 1);
        due("no gust from seed 1", z.often(0, 1, 1, 10, 2, 1), 0);
        due("both seeds", z.often(0, 0, 2, 10, 2, 1), 1);
        due("both seeds from 1 on", z.often(0, 1, 2, 10, 2, 1), 0);
    }

    public static void main(String[] args) {
        inThought();
        day();
        lags();
        worthByWet();
        twoVanes();
        climbs();
        weeks();
        most();
        rule();
        half();
        shut();
        first();
        wearAndIdle();
        eachByItself();
        stand();
        tall();
        pays();
        dry();
        often();
        told.close("DayBoundsTest");
    }
}
