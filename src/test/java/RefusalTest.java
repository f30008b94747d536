/**
 * Every argument of every call: the last value that is taken, the first that is refused, and that
 * all stays behind what is refused or only asked. And what is answered without a SQUARE.
 */
final class RefusalTest {
    private static final int NOTHING = -1000000;
    private static final int MANY = 2000000000;
    /** Wide is not long, so that X and Y can't be taken for one another. */
    private static final String SQUARE = "square wide 9 long 11; jet at 4 5 half 1 high 10;\n"
            + "size drag 5 share 2; size drag 25 share 3; table at 6 5 most 5; table at 4 0 most 0;\n"
            + "road 5; vane lag 1 climb 4; rule wind 3 high 6; rule wind 5 high 0;";

    private static final Told told = new Told();

    /** SLOT 0 has WINDS, 1 a number that is none, 2 nothing, 3 is full; IMAGE 1 has nothing. */
    private static void fill(TableNine x) {
        x.row(0, 0, 3);
        x.write(0, 0, 13);
        x.write(0, 1, 13);
        x.write(0, 2, 21);
        x.row(1, 1, 2);
        x.write(1, 0, 506);
        x.write(1, 1, 40);
        x.row(3, 2, 60);
        x.write(3, 59, 11);
    }

    private static void leaveFaultAndTape(TableNine x) {
        Told.tell(x, "square wide 99");
        x.square();
        Told.tell(x, "square wide 7 long 8;road 3;");
    }

    private static TableNine blown() {
        TableNine x = Told.squareOf(SQUARE);
        x.blow(11);
        x.keep(0);
        x.blow(15);
        x.blow(1);
        x.blows(11, 4);
        x.keep(2);
        x.blow(23);
        fill(x);
        leaveFaultAndTape(x);
        return x;
    }

    private static TableNine never() {
        TableNine x = new TableNine();
        x.keep(0);
        x.keep(2);
        fill(x);
        leaveFaultAndTape(x);
        return x;
    }

    /** There was a SQUARE, with BEATS, and one without LINES came in its place. */
    private static TableNine noMore() {
        TableNine x = Told.squareOf(SQUARE);
        x.blows(11, 9);
        x.square();
        x.keep(0);
        x.keep(2);
        fill(x);
        leaveFaultAndTape(x);
        return x;
    }

    /** The SQUARE that there was is gone, as an IMAGE from ahead of it is gone back to. */
    private static TableNine goneBack() {
        TableNine x = new TableNine();
        x.keep(0);
        x.keep(2);
        Told.tell(x, SQUARE);
        x.square();
        x.blows(11, 9);
        x.back(0);
        fill(x);
        leaveFaultAndTape(x);
        return x;
    }

    private static void textAndBeats(Bounds b) {
        b.doesWithin("end(n)", -1, 0, 28, (x, v) -> x.end(v));
        b.asksWithin("fault(what)", -1, 0, 1, (x, v) -> x.fault(v));
        b.asksWithin("pace(high)", -2, 0, 60, (x, v) -> x.pace(v));
        b.doesWithin("blow(wind)", -2, 0, 39, (x, v) -> x.blow(v));
        b.doesWithin("blows(wind, 1)", -2, 0, 39, (x, v) -> x.blows(v, 1));
        b.doesWithin("blows(11, n)", -2, 0, 400, (x, v) -> x.blows(11, v));
        b.doesWithin("day(slot)", -2, 0, 3, (x, v) -> x.day(v));
        b.doesWithin("gusts(seed, ..)", -2, 0, MANY, (x, v) -> x.gusts(v, 11, 1, 50));
        b.doesWithin("gusts(5, wind, ..)", -2, 0, 39, (x, v) -> x.gusts(5, v, 1, 50));
        b.doesWithin("gusts(5, 11, n, ..)", -2, 0, 400, (x, v) -> x.gusts(5, 11, v, 50));
        b.doesWithin("gusts(5, 11, 1, odds)", -2, 0, 100, (x, v) -> x.gusts(5, 11, 1, v));
        b.asks("blows(40, 0) of no BEATS", -2, x -> x.blows(40, 0));
        b.asks("blows(11, 0)", 0, x -> x.blows(11, 0));
        b.asks("gusts of no BEATS", 0, x -> x.gusts(5, 11, 0, 50));
    }

    private static void whatIsSoNow(Bounds b) {
        b.asksWithin("wet(x, 0)", -2, 0, 8, (x, v) -> x.wet(v, 0));
        b.asksWithin("wet(0, y)", -2, 0, 10, (x, v) -> x.wet(0, v));
        b.asksWithin("table(table, 0)", -2, 0, 1, (x, v) -> x.table(v, 0));
        b.asksWithin("table(0, what)", -2, 0, 3, (x, v) -> x.table(0, v));
        b.asksWithin("water(what)", -1, 0, 5, (x, v) -> x.water(v));
        b.asksWithin("jet(what)", -1, 0, 3, (x, v) -> x.jet(v));
        b.asksWithin("lets(strength)", -2, 0, 9, (x, v) -> x.lets(v));
        b.asksWithin("sum(x, ..)", -2, 0, 8, (x, v) -> x.sum(v, 0, 1, 1));
        b.asksWithin("sum(0, y, ..)", -2, 0, 10, (x, v) -> x.sum(0, v, 1, 1));
        b.asksWithin("sum(0, 0, wide, 1)", -2, 1, 30, (x, v) -> x.sum(0, 0, v, 1));
        b.asksWithin("sum(0, 0, 1, long)", -2, 1, 30, (x, v) -> x.sum(0, 0, 1, v));
        b.asksWithin("wettest(what)", -2, 0, 1, (x, v) -> x.wettest(v));
        b.asksWithin("count(what)", -1, 0, 12, (x, v) -> x.count(v));
    }

    private static void steadyWinds(Bounds b) {
        b.asksWithin("land(size, ..)", -2, 0, 1, (x, v) -> x.land(v, 10, 11));
        b.asksWithin("land(0, high, ..)", -2, 1, 60, (x, v) -> x.land(0, v, 11));
        b.asksWithin("land(0, 10, wind)", -2, 0, 39, (x, v) -> x.land(0, 10, v));
        b.asksWithin("drift(size, ..)", -2, 0, 1, (x, v) -> x.drift(v, 10, 11));
        b.asksWithin("drift(0, high, ..)", -2, 1, 60, (x, v) -> x.drift(0, v, 11));
        b.asksWithin("drift(0, 10, wind)", -2, 0, 39, (x, v) -> x.drift(0, 10, v));
        b.asksWithin("stray(high, 11)", -2, 0, 60, (x, v) -> x.stray(v, 11));
        b.asksWithin("stray(10, wind)", -2, 0, 39, (x, v) -> x.stray(10, v));
        b.asksWithin("low(wind, 0)", -2, 0, 39, (x, v) -> x.low(v, 0));
        b.asksWithin("low(11, n)", -2, 0, 99, (x, v) -> x.low(11, v));
        b.asksWithin("bound(table, 11)", -2, 0, 1, (x, v) -> x.bound(v, 11));
        b.asksWithin("bound(0, wind)", -2, 0, 39, (x, v) -> x.bound(0, v));
        b.asksWithin("reach(table, 1)", -2, 0, 1, (x, v) -> x.reach(v, 1));
        b.asksWithin("reach(0, way)", -2, 0, 3, (x, v) -> x.reach(0, v));
        b.doesWithin("nozzle(size, 7)", -2, 0, 1, (x, v) -> x.nozzle(v, 7));
        b.doesWithin("nozzle(0, drag)", -2, 0, 99, (x, v) -> x.nozzle(0, v));
        b.asksWithin("fine(size, ..)", -2, 0, 1, (x, v) -> x.fine(v, 10, 11));
        b.asksWithin("fine(0, high, ..)", -2, 1, 60, (x, v) -> x.fine(0, v, 11));
        b.asksWithin("fine(0, 10, wind)", -2, 0, 39, (x, v) -> x.fine(0, 10, v));
        b.asksWithin("marks(x, ..)", -2, 0, 8, (x, v) -> x.marks(v, 0, 10));
        b.asksWithin("marks(0, y, ..)", -2, 0, 10, (x, v) -> x.marks(0, v, 10));
        b.asksWithin("marks(0, 0, high)", -2, 1, 60, (x, v) -> x.marks(0, 0, v));
        b.asksWithin("span(x, ..)", -2, 0, 8, (x, v) -> x.span(v, 0, 10, 0));
        b.asksWithin("span(0, y, ..)", -2, 0, 10, (x, v) -> x.span(0, v, 10, 0));
        b.asksWithin("span(0, 0, high, 0)", -2, 1, 60, (x, v) -> x.span(0, 0, v, 0));
        b.asksWithin("span(0, 0, 10, what)", -2, 0, 3, (x, v) -> x.span(0, 0, 10, v));
        b.asksWithin("mist(size, 11)", -2, 0, 1, (x, v) -> x.mist(v, 11));
        b.asksWithin("mist(0, wind)", -2, 0, 39, (x, v) -> x.mist(0, v));
        b.asksWithin("winds(slot, ..)", -2, 0, 3, (x, v) -> x.winds(v, 10, 0));
        b.asksWithin("winds(0, high, 0)", -2, 1, 60, (x, v) -> x.winds(0, v, 0));
        b.asksWithin("winds(0, 10, what)", -2, 0, 1, (x, v) -> x.winds(0, 10, v));
        b.asksWithin("small(n, ..)", -2, 1, 11, (x, v) -> x.small(v, 10, 11));
        b.asksWithin("small(1, high, ..)", -2, 0, 60, (x, v) -> x.small(1, v, 11));
        b.asksWithin("small(1, 10, wind)", -2, 0, 39, (x, v) -> x.small(1, 10, v));
    }

    private static void airAndPlaces(Bounds b) {
        b.asksWithin("already(table, 11)", -2, 0, 1, (x, v) -> x.already(v, 11));
        b.asksWithin("already(0, wind)", -2, 0, 39, (x, v) -> x.already(0, v));
        b.asksWithin("coming(wind)", -2, 0, 39, (x, v) -> x.coming(v));
        b.asksWithin("worst(table)", -2, 0, 1, (x, v) -> x.worst(v));
        b.asksWithin("last(table, 11)", -2, 0, 1, (x, v) -> x.last(v, 11));
        b.asksWithin("last(0, wind)", -2, 0, 39, (x, v) -> x.last(0, v));
        b.asksWithin("where(table, 0)", -2, 0, 1, (x, v) -> x.where(v, 0));
        b.asksWithin("where(0, d)", -2, 0, 9, (x, v) -> x.where(0, v));
        b.doesWithin("move(table, 0, 0)", -2, 0, 1, (x, v) -> x.move(v, 0, 0));
        b.doesWithin("move(0, x, 1)", -2, 0, 8, (x, v) -> x.move(0, v, 1));
        b.doesWithin("move(0, 1, y)", -2, 0, 10, (x, v) -> x.move(0, 1, v));
        b.asksWithin("bow(x, ..)", -2, 0, 8, (x, v) -> x.bow(v, 0, 0));
        b.asksWithin("bow(0, y, ..)", -2, 0, 10, (x, v) -> x.bow(0, v, 0));
        b.asksWithin("bow(0, 0, way)", -2, 0, 3, (x, v) -> x.bow(0, 0, v));
        b.asksWithin("bows(way)", -2, 0, 3, (x, v) -> x.bows(v));
        b.asksWithin("way(x, ..)", -2, 0, 8, (x, v) -> x.way(v, 0, 0, 0));
        b.asksWithin("way(0, y, ..)", -2, 0, 10, (x, v) -> x.way(0, v, 0, 0));
        b.asksWithin("way(0, 0, toX, 0)", -2, 0, 8, (x, v) -> x.way(0, 0, v, 0));
        b.asksWithin("way(0, 0, 0, toY)", -2, 0, 10, (x, v) -> x.way(0, 0, 0, v));
    }

    private static void thoughts(Bounds b) {
        b.asksWithin("thought(slot, 0)", NOTHING, 0, 3, (x, v) -> x.thought(v, 0));
        b.asksWithin("thought(0, what)", NOTHING, 0, 5, (x, v) -> x.thought(0, v));
        b.asksWithin("lagged(slot, 0, 0)", NOTHING, 0, 3, (x, v) -> x.lagged(v, 0, 0));
        b.asksWithin("lagged(0, lag, 0)", NOTHING, 0, 20, (x, v) -> x.lagged(0, v, 0));
        b.asksWithin("lagged(0, 0, what)", NOTHING, 0, 5, (x, v) -> x.lagged(0, 0, v));
        b.asksWithin("worth(slot)", NOTHING, 0, 3, (x, v) -> x.worth(v));
        b.asksWithin("two(slot, 0, 0)", NOTHING, 0, 3, (x, v) -> x.two(v, 0, 0));
        b.asksWithin("two(0, lag, 0)", NOTHING, 0, 20, (x, v) -> x.two(0, v, 0));
        b.asksWithin("two(0, 0, what)", NOTHING, 0, 5, (x, v) -> x.two(0, 0, v));
        b.asksWithin("climbs(slot, 1, 0)", NOTHING, 0, 3, (x, v) -> x.climbs(v, 1, 0));
        b.asksWithin("climbs(0, climb, 0)", NOTHING, 1, 60, (x, v) -> x.climbs(0, v, 0));
        b.asksWithin("climbs(0, 1, what)", NOTHING, 0, 5, (x, v) -> x.climbs(0, 1, v));
        b.asksWithin("week(slot, 1, 0)", NOTHING, 0, 3, (x, v) -> x.week(v, 1, 0));
        b.asksWithin("week(0, k, 0)", NOTHING, 1, 10, (x, v) -> x.week(0, v, 0));
        b.asksWithin("week(0, 1, what)", NOTHING, 0, 5, (x, v) -> x.week(0, 1, v));
        for (int slot = 1; slot <= 2; slot++) {
            int s = slot;
            b.asks("thought() of SLOT " + s, NOTHING, x -> x.thought(s, 0));
            b.asks("lagged() of SLOT " + s, NOTHING, x -> x.lagged(s, 0, 0));
            b.asks("worth() of SLOT " + s, NOTHING, x -> x.worth(s));
            b.asks("two() of SLOT " + s, NOTHING, x -> x.two(s, 0, 0));
            b.asks("climbs() of SLOT " + s, NOTHING, x -> x.climbs(s, 1, 0));
            b.asks("week() of SLOT " + s, NOTHING, x -> x.week(s, 1, 0));
        }
    }

    private static void days(Bounds b) {
        b.asksWithin("most(slot, 0)", -2, 0, 3, (x, v) -> x.most(v, 0));
        b.asksWithin("most(0, table)", -2, 0, 1, (x, v) -> x.most(0, v));
        b.asksWithin("rule(slot)", -2, 0, 3, (x, v) -> x.rule(v));
        b.asksWithin("half(slot, 0)", -2, 0, 3, (x, v) -> x.half(v, 0));
        b.asksWithin("half(0, n)", -2, 0, 9999, (x, v) -> x.half(0, v));
        b.asksWithin("shut(slot, 1)", -2, 0, 3, (x, v) -> x.shut(v, 1));
        b.asksWithin("shut(0, n)", -2, 1, 9999, (x, v) -> x.shut(0, v));
        b.asksWithin("wear(slot)", -2, 0, 3, (x, v) -> x.wear(v));
        b.asksWithin("idle(slot)", -2, 0, 3, (x, v) -> x.idle(v));
        b.asksWithin("first(slot, 0)", -2, 0, 3, (x, v) -> x.first(v, 0));
        b.asksWithin("first(0, table)", -2, 0, 1, (x, v) -> x.first(0, v));
        b.asksWithin("best(slot)", -2, 0, 3, (x, v) -> x.best(v));
        b.asksWithin("stand(slot, 0)", -2, 0, 3, (x, v) -> x.stand(v, 0));
        b.asksWithin("stand(0, d)", -2, 0, 3, (x, v) -> x.stand(0, v));
        b.asksWithin("tall(slot, 0)", -2, 0, 3, (x, v) -> x.tall(v, 0));
        b.asksWithin("tall(0, n)", -2, 0, 9999, (x, v) -> x.tall(0, v));
        b.asksWithin("pays(slot, 0)", -2, 0, 3, (x, v) -> x.pays(v, 0));
        b.asksWithin("pays(0, price)", -2, 0, 99, (x, v) -> x.pays(0, v));
        b.asksWithin("dry(slot)", -2, 0, 3, (x, v) -> x.dry(v));
        b.asksWithin("often(table, ..)", -2, 0, 1, (x, v) -> x.often(v, 5, 1, 11, 1, 50));
        b.asksWithin("often(0, seed, ..)", -2, 0, MANY, (x, v) -> x.often(0, v, 1, 11, 1, 50));
        b.asksWithin("often(0, 5, k, ..)", -2, 1, 20, (x, v) -> x.often(0, 5, v, 11, 1, 50));
        b.asksWithin("often(0, 5, 1, wind, ..)", -2, 0, 39, (x, v) -> x.often(0, 5, 1, v, 1, 50));
        b.asksWithin("often(0, 5, 1, 11, n, 50)", -2, 0, 400, (x, v) -> x.often(0, 5, 1, 11, v, 50));
        b.asksWithin("often(0, 5, 1, 11, 1, odds)", -2, 0, 100, (x, v) -> x.often(0, 5, 1, 11, 1, v));
        b.asks("often from the greatest seeds", 0, x -> x.often(0, MANY, 20, 11, 0, 50));
    }

    /** SLOT 1 has a number that is no WIND, 2 has nothing. */
    private static void daysOfNoWinds(Bounds b) {
        for (int slot = 1; slot <= 2; slot++) {
            int s = slot;
            int due = slot == 1 ? -2 : -6;
            b.asks("day() of SLOT " + s, due, x -> x.day(s));
            b.asks("most() of SLOT " + s, due, x -> x.most(s, 0));
            b.asks("rule() of SLOT " + s, due, x -> x.rule(s));
            b.asks("half() of SLOT " + s, due, x -> x.half(s, 0));
            b.asks("shut() of SLOT " + s, due, x -> x.shut(s, 1));
            b.asks("wear() of SLOT " + s, due, x -> x.wear(s));
            b.asks("idle() of SLOT " + s, due, x -> x.idle(s));
            b.asks("first() of SLOT " + s, due, x -> x.first(s, 0));
            b.asks("best() of SLOT " + s, due, x -> x.best(s));
            b.asks("stand() of SLOT " + s, due, x -> x.stand(s, 0));
            b.asks("tall() of SLOT " + s, due, x -> x.tall(s, 0));
            b.asks("pays() of SLOT " + s, due, x -> x.pays(s, 0));
            b.asks("dry() of SLOT " + s, due, x -> x.dry(s));
        }
        b.asks("winds() of SLOT 2", -6, x -> x.winds(2, 10, 0));
        b.asks("winds() of SLOT 1, whose numbers are no WINDS", 0, x -> x.winds(1, 10, 0));
    }

    private static void imagesAndRows(Bounds b) {
        b.doesWithin("keep(k)", -2, 0, 2, (x, v) -> x.keep(v));
        b.doesWithin("back(k)", -2, 0, 2, (x, v) -> x.back(v));
        b.asks("back(1) to nothing", -6, x -> x.back(1));
        b.doesWithin("row(slot, 0, 1)", -2, 0, 3, (x, v) -> x.row(v, 0, 1));
        b.doesWithin("row(0, width, 1)", -2, 0, 3, (x, v) -> x.row(0, v, 1));
        b.refuses("row(0, 0, n)", -2, (x, v) -> x.row(0, 0, v), 61, Integer.MAX_VALUE);
        b.refuses("row(0, 0, n)", -3, (x, v) -> x.row(0, 0, v), -1, Integer.MIN_VALUE);
        b.refuses("row(2, 0, n)", -3, (x, v) -> x.row(2, 0, v), -1, Integer.MIN_VALUE);
        b.refuses("row(slot, 0, -1)", -2, (x, v) -> x.row(v, 0, -1), -1, 4);
        b.refuses("row(0, width, -1)", -2, (x, v) -> x.row(0, v, -1), -1, 4);
        b.refuses("write(slot, 0, 1)", -2, (x, v) -> x.write(v, 0, 1), -1, 4, Integer.MIN_VALUE, Integer.MAX_VALUE);
        b.asks("write(2, 0, 1)", -6, x -> x.write(2, 0, 1));
        b.asks("write(2, -1, 1)", -6, x -> x.write(2, -1, 1));
        b.doesWithin("write(0, i, 1)", -7, 0, 2, (x, v) -> x.write(0, v, 1));
        b.doesWithin("write(3, i, 1)", -7, 0, 59, (x, v) -> x.write(3, v, 1));
        b.doesWithin("paste(slot, ..)", -2, 0, 3, (x, v) -> x.paste(v, 0, 0, 0, 0));
        b.doesWithin("paste(0, 0, to, ..)", -2, 0, 3, (x, v) -> x.paste(0, 0, v, 0, 0));
        b.asks("paste(2, 0, 0, 0, 0) of nothing", -6, x -> x.paste(2, 0, 0, 0, 0));
        b.asks("paste(0, 0, 2, 0, 0) to nothing", -6, x -> x.paste(0, 0, 2, 0, 0));
        b.asks("paste(2, -1, 2, -1, -1) of nothing", -6, x -> x.paste(2, -1, 2, -1, -1));
        b.asks("paste(0, 0, 1, 0, 0) of other WIDTHS", -8, x -> x.paste(0, 0, 1, 0, 0));
        b.asks("paste(0, 9, 1, 9, 9) of other WIDTHS", -8, x -> x.paste(0, 9, 1, 9, 9));
        b.doesWithin("paste(0, i, 0, 0, 1)", -7, 0, 2, (x, v) -> x.paste(0, v, 0, 0, 1));
        b.doesWithin("paste(0, 0, 0, k, 1)", -7, 0, 2, (x, v) -> x.paste(0, 0, 0, v, 1));
        b.doesWithin("paste(0, 0, 0, 0, n)", -7, 0, 3, (x, v) -> x.paste(0, 0, 0, 0, v));
        b.doesWithin("paste(0, i, 0, 0, 0)", -7, 0, 3, (x, v) -> x.paste(0, v, 0, 0, 0));
        b.doesWithin("paste(0, 0, 0, k, 0)", -7, 0, 3, (x, v) -> x.paste(0, 0, 0, v, 0));
        b.doesWithin("paste(0, 1, 0, 0, n)", -7, 0, 2, (x, v) -> x.paste(0, 1, 0, 0, v));
        b.doesWithin("paste(0, 0, 0, 1, n)", -7, 0, 2, (x, v) -> x.paste(0, 0, 0, 1, v));
    }

    /** What is asked first: -2 of arguments, then -6; a number that is no WIND is asked last. */
    private static void order(Bounds b) {
        b.asks("most(2, 2)", -2, x -> x.most(2, 2));
        b.asks("half(2, -1)", -2, x -> x.half(2, -1));
        b.asks("shut(2, 0)", -2, x -> x.shut(2, 0));
        b.asks("first(2, 2)", -2, x -> x.first(2, 2));
        b.asks("stand(2, 4)", -2, x -> x.stand(2, 4));
        b.asks("tall(2, 10000)", -2, x -> x.tall(2, 10000));
        b.asks("pays(2, 100)", -2, x -> x.pays(2, 100));
        b.asks("winds(2, 0, 0)", -2, x -> x.winds(2, 0, 0));
        b.asks("winds(2, 10, 2)", -2, x -> x.winds(2, 10, 2));
    }

    private static void refusedWithout(Bounds b) {
        b.asks("blow(0)", -2, x -> x.blow(0));
        b.asks("blows(0, 1)", -2, x -> x.blows(0, 1));
        b.asks("blows(0, 0)", -2, x -> x.blows(0, 0));
        b.asks("gusts(0, 0, 1, 0)", -2, x -> x.gusts(0, 0, 1, 0));
        b.asks("gusts(0, 0, 0, 0)", -2, x -> x.gusts(0, 0, 0, 0));
        b.asks("wet(0, 0)", -2, x -> x.wet(0, 0));
        b.asks("table(0, 0)", -2, x -> x.table(0, 0));
        b.asks("lets(0)", -2, x -> x.lets(0));
        b.asks("land(0, 1, 0)", -2, x -> x.land(0, 1, 0));
        b.asks("drift(0, 1, 0)", -2, x -> x.drift(0, 1, 0));
        b.asks("stray(0, 0)", -2, x -> x.stray(0, 0));
        b.asks("stray(1, 0)", -2, x -> x.stray(1, 0));
        b.asks("low(0, 0)", -2, x -> x.low(0, 0));
        b.asks("bound(0, 0)", -2, x -> x.bound(0, 0));
        b.asks("reach(0, 0)", -2, x -> x.reach(0, 0));
        b.asks("already(0, 0)", -2, x -> x.already(0, 0));
        b.asks("coming(0)", -2, x -> x.coming(0));
        b.asks("worst(0)", -2, x -> x.worst(0));
        b.asks("nozzle(0, 0)", -2, x -> x.nozzle(0, 0));
        b.asks("fine(0, 1, 0)", -2, x -> x.fine(0, 1, 0));
        b.asks("marks(0, 0, 1)", -2, x -> x.marks(0, 0, 1));
        b.asks("span(0, 0, 1, 0)", -2, x -> x.span(0, 0, 1, 0));
        b.asks("where(0, 0)", -2, x -> x.where(0, 0));
        b.asks("move(0, 0, 0)", -2, x -> x.move(0, 0, 0));
        b.asks("bow(0, 0, 0)", -2, x -> x.bow(0, 0, 0));
        b.asks("bows(0)", -2, x -> x.bows(0));
        b.asks("mist(0, 0)", -2, x -> x.mist(0, 0));
        b.asks("last(0, 0)", -2, x -> x.last(0, 0));
        b.asks("sum(0, 0, 1, 1)", -2, x -> x.sum(0, 0, 1, 1));
        b.asks("wettest(0)", -2, x -> x.wettest(0));
        b.asks("wettest(1)", -2, x -> x.wettest(1));
        b.asks("small(1, 0, 0)", -2, x -> x.small(1, 0, 0));
        b.asks("way(0, 0, 0, 0)", -2, x -> x.way(0, 0, 0, 0));
        b.asks("often(0, 0, 1, 0, 0, 0)", -2, x -> x.often(0, 0, 1, 0, 0, 0));
    }

    /** Without a SQUARE a SLOT that has nothing is -2, too, as that is asked first. */
    private static void daysWithout(Bounds b) {
        for (int slot = 0; slot < 4; slot++) {
            int s = slot;
            b.asks("day(" + s + ")", -2, x -> x.day(s));
            b.asks("winds(" + s + ", 1, 0)", -2, x -> x.winds(s, 1, 0));
            b.asks("most(" + s + ", 0)", -2, x -> x.most(s, 0));
            b.asks("rule(" + s + ")", -2, x -> x.rule(s));
            b.asks("half(" + s + ", 0)", -2, x -> x.half(s, 0));
            b.asks("shut(" + s + ", 1)", -2, x -> x.shut(s, 1));
            b.asks("wear(" + s + ")", -2, x -> x.wear(s));
            b.asks("idle(" + s + ")", -2, x -> x.idle(s));
            b.asks("first(" + s + ", 0)", -2, x -> x.first(s, 0));
            b.asks("best(" + s + ")", -2, x -> x.best(s));
            b.asks("stand(" + s + ", 0)", -2, x -> x.stand(s, 0));
            b.asks("tall(" + s + ", 0)", -2, x -> x.tall(s, 0));
            b.asks("pays(" + s + ", 0)", -2, x -> x.pays(s, 0));
            b.asks("dry(" + s + ")", -2, x -> x.dry(s));
            b.asks("thought(" + s + ", 0)", NOTHING, x -> x.thought(s, 0));
            b.asks("lagged(" + s + ", 0, 0)", NOTHING, x -> x.lagged(s, 0, 0));
            b.asks("worth(" + s + ")", NOTHING, x -> x.worth(s));
            b.asks("two(" + s + ", 0, 0)", NOTHING, x -> x.two(s, 0, 0));
            b.asks("climbs(" + s + ", 1, 0)", NOTHING, x -> x.climbs(s, 1, 0));
            b.asks("week(" + s + ", 1, 0)", NOTHING, x -> x.week(s, 1, 0));
        }
    }

    private static void answeredWithout(Bounds b) {
        for (int what = -1; what <= 6; what++) {
            int w = what;
            b.asks("water(" + w + ")", w >= 0 && w <= 5 ? 0 : -1, x -> x.water(w));
            b.asks("jet(" + w + ")", w >= 0 && w <= 2 ? 0 : -1, x -> x.jet(w));
        }
        for (int what = 0; what <= 13; what++) {
            int w = what;
            int due = w == 6 ? 28 : w == 12 ? 3 : w == 11 || w == 13 ? -1 : 0;
            b.asks("count(" + w + ")", due, x -> x.count(w));
        }
        b.asks("count(-1)", -1, x -> x.count(-1));
        b.asks("over()", 0, x -> x.over());
        b.asks("ice()", -1, x -> x.ice());
        b.asks("pace(60)", 11, x -> x.pace(60));
        b.asks("pace(61)", -2, x -> x.pace(61));
        b.asks("keep(3)", -2, x -> x.keep(3));
        b.asks("back(-1)", -2, x -> x.back(-1));
        b.asks("back(1)", -6, x -> x.back(1));
        b.asks("end(29)", -1, x -> x.end(29));
    }

    public static void main(String[] args) {
        Bounds b = new Bounds(told, RefusalTest::blown);
        textAndBeats(b);
        whatIsSoNow(b);
        steadyWinds(b);
        airAndPlaces(b);
        thoughts(b);
        days(b);
        daysOfNoWinds(b);
        imagesAndRows(b);
        order(b);
        for (Bounds without : new Bounds[] {
            new Bounds(told, RefusalTest::never), new Bounds(told, RefusalTest::noMore), new Bounds(told, RefusalTest::goneBack),
        }) {
            refusedWithout(without);
            daysWithout(without);
            answeredWithout(without);
        }
        told.close("RefusalTest");
    }
}
