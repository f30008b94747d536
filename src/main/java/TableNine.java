import java.util.Arrays;

/** A fountain on a windy square; ../shared/DOC.md says what each call must do. */
public final class TableNine {
    public static final int NONE = -1;

    private static final int WRONG = -2;
    private static final int BELOW_ZERO = -3;
    private static final int FAULTY = -4;
    private static final int TAKEN = -5;
    private static final int EMPTY = -6;
    private static final int NO_NUMBER = -7;
    private static final int OTHER_WIDTH = -8;
    private static final int NOTHING = -1000000;

    /** Where a drop came that the basin has; no place and no NONE. */
    private static final int IN_BASIN = -3;

    private static final int TAPE_MOST = 1600;
    private static final int SIDE_MOST = 30;
    private static final int CELLS_MOST = 900;
    private static final int SIZES_MOST = 5;
    private static final int TABLES_MOST = 8;
    private static final int RULES_MOST = 6;
    private static final int SLOTS = 4;
    private static final int IMAGES = 3;
    private static final int ROW_MOST = 60;
    private static final int HIGH_MOST = 60;
    private static final int PACE_MOST = 11;
    private static final int LAG_MOST = 20;
    private static final int BEATS_MOST = 400;
    private static final int WINDS = 40;
    private static final int WAYS = 4;
    private static final int STRENGTHS = 10;

    /** A power of two above the 22 BEATS of the longest flight and the 20 of the longest lag. */
    private static final int RING = 32;
    private static final int RING_MASK = 31;

    private static final int[] WAY_X = {0, 1, 0, -1};
    private static final int[] WAY_Y = {-1, 0, 1, 0};

    private static final int TOKEN_END = 0;
    private static final int TOKEN_WORD = 1;
    private static final int TOKEN_NUMBER = 2;
    private static final int TOKEN_SIGN = 3;
    private static final int TOKEN_STRANGE = 4;

    private final Tape tape;
    private final Teller teller;
    private final Scene now;
    /** What is only thought is played here, so that what stands stays. */
    private final Scene dream;
    private final Scene[] images;
    private final Row[] rows;
    private final Walk walk;

    public TableNine() {
        tape = new Tape();
        now = new Scene();
        dream = new Scene();
        teller = new Teller(tape, dream.plan);
        images = new Scene[IMAGES];
        rows = new Row[SLOTS];
        for (int i = 0; i < SLOTS; i++) {
            rows[i] = new Row();
        }
        walk = new Walk();
    }

    // ---- the text ----

    public int feed(int a, int b, int c, int d, int e) {
        if (tape.length + 20 > TAPE_MOST) {
            return NONE;
        }
        tape.append(a);
        tape.append(b);
        tape.append(c);
        tape.append(d);
        tape.append(e);
        return tape.length;
    }

    public int end(int n) {
        if (n < 0 || n > tape.length) {
            return NONE;
        }
        tape.length = n;
        return n;
    }

    public int square() {
        boolean sound = teller.readsAll();
        tape.length = 0;
        if (!sound) {
            return FAULTY;
        }
        now.plan.copyFrom(dream.plan);
        now.air.clear();
        return now.plan.lines;
    }

    public int fault(int what) {
        if (what == 0) {
            return teller.fault;
        }
        return what == 1 ? teller.place : NONE;
    }

    // ---- beats ----

    public int pace(int high) {
        return isWithin(high, 0, HIGH_MOST) ? paceOf(high) : WRONG;
    }

    public int blow(int wind) {
        return blowMany(wind, 1);
    }

    public int blows(int wind, int n) {
        return isWithin(n, 0, BEATS_MOST) ? blowMany(wind, n) : WRONG;
    }

    public int day(int slot) {
        int refusal = refusalOf(slot);
        if (refusal != 0) {
            return refusal;
        }
        return now.playRow(rows[slot]);
    }

    public int gusts(int seed, int wind, int n, int odds) {
        if (!areGusts(seed, wind, n, odds)) {
            return WRONG;
        }
        return now.playGusts(seed, wind, n, odds);
    }

    // ---- what is so now ----

    public int wet(int x, int y) {
        return now.plan.isCell(x, y) ? now.air.wetAt(x, y) : WRONG;
    }

    public int table(int table, int what) {
        if (!isTable(table)) {
            return WRONG;
        }
        switch (what) {
            case 0:
                return now.plan.tableX[table];
            case 1:
                return now.plan.tableY[table];
            case 2:
                return now.plan.tableMost[table];
            case 3:
                return now.tableWet(table);
            default:
                return WRONG;
        }
    }

    public int over() {
        return now.tablesOver();
    }

    public int water(int what) {
        Air air = now.air;
        switch (what) {
            case 0:
                return air.dropsUp();
            case 1:
                return air.dropsUp() > 0 ? air.lumpsUp() : 0;
            case 2:
                return air.caught;
            case 3:
                return air.lost;
            case 4:
                return air.onCells;
            case 5:
                return air.thrown;
            default:
                return NONE;
        }
    }

    public int jet(int what) {
        switch (what) {
            case 0:
                return now.air.high;
            case 1:
                return now.air.show;
            case 2:
                return now.air.beats;
            case 3:
                return now.air.seen;
            default:
                return NONE;
        }
    }

    public int lets(int strength) {
        return hasSquare() && isWithin(strength, 0, STRENGTHS - 1) ? now.plan.highLetBy(strength) : WRONG;
    }

    public int ice() {
        return now.roadWet();
    }

    public int sum(int x, int y, int wide, int length) {
        if (!now.plan.isCell(x, y) || !isWithin(wide, 1, SIDE_MOST) || !isWithin(length, 1, SIDE_MOST)) {
            return WRONG;
        }
        int endX = Math.min(x + wide, now.plan.wide);
        int endY = Math.min(y + length, now.plan.length);
        int wetness = 0;
        for (int atY = y; atY < endY; atY++) {
            for (int atX = x; atX < endX; atX++) {
                wetness += now.air.wetAt(atX, atY);
            }
        }
        return wetness;
    }

    public int wettest(int what) {
        if (!hasSquare() || !isWithin(what, 0, 1)) {
            return WRONG;
        }
        int greatest = 0;
        int place = NONE;
        for (int y = 0; y < now.plan.length; y++) {
            for (int x = 0; x < now.plan.wide; x++) {
                if (now.air.wetAt(x, y) > greatest) {
                    greatest = now.air.wetAt(x, y);
                    place = placeOf(x, y);
                }
            }
        }
        return what == 0 || place == NONE ? place : greatest;
    }

    public int count(int what) {
        Plan plan = now.plan;
        switch (what) {
            case 0:
                return plan.wide;
            case 1:
                return plan.length;
            case 2:
                return plan.sizes;
            case 3:
                return plan.tables;
            case 4:
                return plan.rules;
            case 5:
                return plan.lines;
            case 6:
                return tape.length;
            case 7:
                return plan.half;
            case 8:
                return plan.high;
            case 9:
                return plan.lag;
            case 10:
                return plan.climb;
            case 11:
                return plan.road;
            case 12:
                return countRows();
            default:
                return NONE;
        }
    }

    // ---- steady winds ----

    public int land(int size, int high, int wind) {
        if (!isThrow(size, high, wind)) {
            return WRONG;
        }
        int cells = now.plan.steadyDrift(size, flightOf(high), wind) / 100;
        int x = now.plan.jetX + cells * WAY_X[wind / 10];
        int y = now.plan.jetY + cells * WAY_Y[wind / 10];
        return now.plan.isCell(x, y) ? placeOf(x, y) : NONE;
    }

    public int drift(int size, int high, int wind) {
        return isThrow(size, high, wind) ? now.plan.steadyDrift(size, flightOf(high), wind) : WRONG;
    }

    public int stray(int high, int wind) {
        if (!hasSquare() || !isWithin(high, 0, HIGH_MOST) || !isWind(wind)) {
            return WRONG;
        }
        return now.plan.strayFrom(high, wind);
    }

    public int low(int wind, int n) {
        if (!hasSquare() || !isWind(wind) || !isWithin(n, 0, 99)) {
            return WRONG;
        }
        for (int high = 1; high <= HIGH_MOST; high++) {
            if (now.plan.strayFrom(high, wind) > n) {
                return high - 1;
            }
        }
        return HIGH_MOST;
    }

    public int bound(int table, int wind) {
        if (!isTable(table) || !isWind(wind)) {
            return WRONG;
        }
        return lowestHit(table, wind) - 1;
    }

    public int reach(int table, int way) {
        if (!isTable(table) || !isWay(way)) {
            return WRONG;
        }
        int bits = 0;
        for (int strength = 0; strength <= 9; strength++) {
            if (lowestHit(table, 10 * way + strength) <= HIGH_MOST) {
                bits |= 1 << strength;
            }
        }
        return bits;
    }

    public int nozzle(int size, int drag) {
        if (!isSize(size) || !isWithin(drag, 0, 99)) {
            return WRONG;
        }
        int was = now.plan.drag[size];
        now.plan.drag[size] = drag;
        return was;
    }

    public int fine(int size, int high, int wind) {
        if (!isThrow(size, high, wind)) {
            return WRONG;
        }
        int reach = (wind % 10) * flightOf(high);
        for (int drag = 99; drag >= 0; drag--) {
            if (drag * reach / 100 <= now.plan.half) {
                return drag;
            }
        }
        return NONE;
    }

    public int marks(int x, int y, int high) {
        if (!now.plan.isCell(x, y) || !isWithin(high, 1, HIGH_MOST)) {
            return WRONG;
        }
        int place = placeOf(x, y);
        int ways = 0;
        for (int wind = 0; wind < WINDS; wind++) {
            ways += Integer.bitCount(now.plan.sizesHitting(place, flightOf(high), wind));
        }
        return ways;
    }

    public int span(int x, int y, int high, int what) {
        if (!now.plan.isCell(x, y) || !isWithin(high, 1, HIGH_MOST) || !isWithin(what, 0, 3)) {
            return WRONG;
        }
        int place = placeOf(x, y);
        int least = NONE;
        int greatest = NONE;
        int ways = 0;
        int sizes = 0;
        for (int strength = 1; strength <= 9; strength++) {
            for (int way = 0; way < WAYS; way++) {
                int hits = now.plan.sizesHitting(place, flightOf(high), 10 * way + strength);
                if (hits != 0) {
                    least = least == NONE ? strength : least;
                    greatest = strength;
                    ways |= 1 << way;
                    sizes |= hits;
                }
            }
        }
        if (sizes == 0) {
            return NONE;
        }
        switch (what) {
            case 0:
                return least;
            case 1:
                return greatest;
            case 2:
                return ways;
            default:
                return sizes;
        }
    }

    public int mist(int size, int wind) {
        if (!isSize(size) || !isWind(wind)) {
            return WRONG;
        }
        int cells = 0;
        int before = NONE;
        // A greater HIGH never comes nearer to the jet, so like CELLS follow one another.
        for (int high = 1; high <= HIGH_MOST; high++) {
            int place = now.plan.steadyPlace(size, flightOf(high), wind);
            if (place >= 0 && place != before) {
                cells++;
                before = place;
            }
        }
        return cells;
    }

    public int small(int n, int high, int wind) {
        if (!hasSquare() || !isWithin(n, 1, 11) || !isWithin(high, 0, HIGH_MOST) || !isWind(wind)) {
            return WRONG;
        }
        return n * now.plan.strayFrom(high / n, wind);
    }

    public int winds(int slot, int high, int what) {
        if (!isSlot(slot) || !hasSquare() || !isWithin(high, 1, HIGH_MOST) || !isWithin(what, 0, 1)) {
            return WRONG;
        }
        if (!rows[slot].has) {
            return EMPTY;
        }
        int many = 0;
        int least = NONE;
        for (int wind = 0; wind < WINDS; wind++) {
            if (makesMarks(rows[slot], flightOf(high), wind)) {
                many++;
                least = least == NONE ? wind : least;
            }
        }
        return what == 0 ? many : least;
    }

    // ---- what is up already ----

    public int already(int table, int wind) {
        return isTable(table) && isWind(wind) ? now.dropsComing(table, wind) : WRONG;
    }

    public int coming(int wind) {
        return hasSquare() && isWind(wind) ? now.dropsStraying(wind) : WRONG;
    }

    public int worst(int table) {
        if (!isTable(table)) {
            return WRONG;
        }
        int most = 0;
        int worst = NONE;
        for (int wind = 0; wind < WINDS; wind++) {
            int drops = now.dropsComing(table, wind);
            if (drops > most) {
                most = drops;
                worst = wind;
            }
        }
        return worst;
    }

    public int last(int table, int wind) {
        return isTable(table) && isWind(wind) ? now.lastComing(table, wind) : WRONG;
    }

    // ---- days in thought ----

    public int thought(int slot, int what) {
        if (!isThought(slot, what)) {
            return NOTHING;
        }
        beginDream();
        dreamDay(slot);
        return gainOf(what);
    }

    public int lagged(int slot, int lag, int what) {
        if (!isThought(slot, what) || !isWithin(lag, 0, LAG_MOST)) {
            return NOTHING;
        }
        beginDream();
        dream.plan.lag = lag;
        dreamDay(slot);
        return gainOf(what);
    }

    public int two(int slot, int lag, int what) {
        if (!isThought(slot, what) || !isWithin(lag, 0, LAG_MOST)) {
            return NOTHING;
        }
        beginDream();
        dream.plan.secondLag = lag;
        dreamDay(slot);
        return gainOf(what);
    }

    public int climbs(int slot, int climb, int what) {
        if (!isThought(slot, what) || !isWithin(climb, 1, HIGH_MOST)) {
            return NOTHING;
        }
        beginDream();
        dream.plan.climb = climb;
        dreamDay(slot);
        return gainOf(what);
    }

    public int week(int slot, int k, int what) {
        if (!isThought(slot, what) || !isWithin(k, 1, 10)) {
            return NOTHING;
        }
        beginDream();
        for (int i = 1; i < k; i++) {
            dream.playRow(rows[slot]);
        }
        dreamDay(slot);
        return gainOf(what);
    }

    public int worth(int slot) {
        if (refusalOf(slot) != 0) {
            return NOTHING;
        }
        return valueByLag(slot, 0) - valueByLag(slot, now.plan.lag);
    }

    public int best(int slot) {
        int refusal = refusalOf(slot);
        if (refusal != 0) {
            return refusal;
        }
        int best = 0;
        int greatest = valueByLag(slot, 0);
        for (int lag = 1; lag <= LAG_MOST; lag++) {
            int value = valueByLag(slot, lag);
            if (value > greatest) {
                greatest = value;
                best = lag;
            }
        }
        return best;
    }

    public int most(int slot, int table) {
        if (!isTable(table)) {
            return WRONG;
        }
        int refusal = refusalOf(slot);
        if (refusal != 0) {
            return refusal;
        }
        int bearable = Math.max(now.plan.tableMost[table], now.tableWet(table));
        for (int high = HIGH_MOST; high >= 0; high--) {
            dreamByHigh(slot, high);
            if (dream.tableWet(table) <= bearable) {
                return high;
            }
        }
        return NONE;
    }

    public int rule(int slot) {
        int refusal = refusalOf(slot);
        if (refusal != 0) {
            return refusal;
        }
        int best = NONE;
        int greatest = NONE;
        for (int wind = 0; wind <= 9; wind++) {
            for (int high = 0; high <= HIGH_MOST; high += 10) {
                beginDream();
                dream.plan.dropRules();
                dream.plan.addRule(wind, high);
                dreamDay(slot);
                if (gainOf(0) > greatest && gainOf(3) == 0) {
                    greatest = gainOf(0);
                    best = 100 * wind + high;
                }
            }
        }
        return best;
    }

    public int half(int slot, int n) {
        if (!isWithin(n, 0, 9999)) {
            return WRONG;
        }
        int refusal = refusalOf(slot);
        if (refusal != 0) {
            return refusal;
        }
        for (int half = 0; half <= 9; half++) {
            beginDream();
            dream.plan.half = half;
            dreamDay(slot);
            if (dreamStrays() <= n) {
                return half;
            }
        }
        return NONE;
    }

    public int tall(int slot, int n) {
        if (!isWithin(n, 0, 9999)) {
            return WRONG;
        }
        int refusal = refusalOf(slot);
        if (refusal != 0) {
            return refusal;
        }
        int best = NONE;
        int greatest = NONE;
        for (int high = 0; high <= HIGH_MOST; high++) {
            dreamByHigh(slot, high);
            if (dreamStrays() <= n && gainOf(0) > greatest) {
                greatest = gainOf(0);
                best = high;
            }
        }
        return best;
    }

    public int pays(int slot, int price) {
        if (!isWithin(price, 0, 99)) {
            return WRONG;
        }
        int refusal = refusalOf(slot);
        if (refusal != 0) {
            return refusal;
        }
        int best = NONE;
        int greatest = 0;
        for (int high = 0; high <= HIGH_MOST; high++) {
            dreamByHigh(slot, high);
            int value = gainOf(0) - price * gainOf(1);
            if (best == NONE || value > greatest) {
                greatest = value;
                best = high;
            }
        }
        return best;
    }

    public int stand(int slot, int d) {
        if (!isWithin(d, 0, 3)) {
            return WRONG;
        }
        int refusal = refusalOf(slot);
        if (refusal != 0) {
            return refusal;
        }
        int best = NONE;
        int least = 0;
        for (int y = now.plan.jetY - d; y <= now.plan.jetY + d; y++) {
            for (int x = now.plan.jetX - d; x <= now.plan.jetX + d; x++) {
                if (now.plan.isCell(x, y)) {
                    int wetness = dreamByStand(slot, x, y);
                    if (best == NONE || wetness < least) {
                        least = wetness;
                        best = placeOf(x, y);
                    }
                }
            }
        }
        return best;
    }

    public int dry(int slot) {
        int refusal = refusalOf(slot);
        if (refusal != 0) {
            return refusal;
        }
        beginDream();
        dreamDay(slot);
        int bits = 0;
        for (int table = 0; table < now.plan.tables; table++) {
            if (dream.tableWet(table) <= now.tableWet(table)) {
                bits |= 1 << table;
            }
        }
        return bits;
    }

    public int shut(int slot, int n) {
        if (!isWithin(n, 1, 9999)) {
            return WRONG;
        }
        int refusal = refusalOf(slot);
        if (refusal != 0) {
            return refusal;
        }
        if (now.roadWet() >= n) {
            return 0;
        }
        beginDream();
        for (int i = 0; i < rows[slot].length; i++) {
            dream.playWind(rows[slot].windAt(i));
            if (dream.roadWet() >= n) {
                return i + 1;
            }
        }
        return NONE;
    }

    public int first(int slot, int table) {
        if (!isTable(table)) {
            return WRONG;
        }
        int refusal = refusalOf(slot);
        if (refusal != 0) {
            return refusal;
        }
        beginDream();
        for (int i = 0; i < rows[slot].length; i++) {
            dream.playWind(rows[slot].windAt(i));
            if (dream.tableWet(table) > now.tableWet(table)) {
                return i + 1;
            }
        }
        return NONE;
    }

    public int wear(int slot) {
        int refusal = refusalOf(slot);
        if (refusal != 0) {
            return refusal;
        }
        beginDream();
        int wear = 0;
        for (int i = 0; i < rows[slot].length; i++) {
            int before = dream.air.high;
            dream.playWind(rows[slot].windAt(i));
            wear += Math.abs(dream.air.high - before);
        }
        return wear;
    }

    public int idle(int slot) {
        int refusal = refusalOf(slot);
        if (refusal != 0) {
            return refusal;
        }
        beginDream();
        int idle = 0;
        for (int i = 0; i < rows[slot].length; i++) {
            dream.playWind(rows[slot].windAt(i));
            if (dream.air.high == 0) {
                idle++;
            }
        }
        return idle;
    }

    public int often(int table, int seed, int k, int wind, int n, int odds) {
        if (!isTable(table) || !isWithin(k, 1, 20) || !areGusts(seed, wind, n, odds)) {
            return WRONG;
        }
        int days = 0;
        for (int i = 0; i < k; i++) {
            beginDream();
            dream.playGusts(seed + i, wind, n, odds);
            if (dream.isOver(table)) {
                days++;
            }
        }
        return days;
    }

    // ---- tables, bows, ways ----

    public int where(int table, int d) {
        if (!isTable(table) || !isWithin(d, 0, 9)) {
            return WRONG;
        }
        int ownX = now.plan.tableX[table];
        int ownY = now.plan.tableY[table];
        int best = NONE;
        int least = 0;
        for (int y = ownY - d; y <= ownY + d; y++) {
            for (int x = ownX - d; x <= ownX + d; x++) {
                if (now.plan.isCell(x, y) && now.plan.hasRoomFor(table, x, y)
                        && (best == NONE || now.air.wetAt(x, y) < least)) {
                    least = now.air.wetAt(x, y);
                    best = placeOf(x, y);
                }
            }
        }
        return best;
    }

    public int move(int table, int x, int y) {
        if (!isTable(table) || !now.plan.isCell(x, y)) {
            return WRONG;
        }
        if (!now.plan.hasRoomFor(table, x, y)) {
            return TAKEN;
        }
        int was = now.plan.tablePlace(table);
        now.plan.tableX[table] = x;
        now.plan.tableY[table] = y;
        return was;
    }

    public int bow(int x, int y, int way) {
        if (!now.plan.isCell(x, y) || !isWay(way)) {
            return WRONG;
        }
        return now.plan.showsBow(x, y, way) ? 1 : 0;
    }

    public int bows(int way) {
        if (!hasSquare() || !isWay(way)) {
            return WRONG;
        }
        int cells = 0;
        for (int y = 0; y < now.plan.length; y++) {
            for (int x = 0; x < now.plan.wide; x++) {
                if (!now.plan.isBasin(x, y) && now.plan.showsBow(x, y, way)) {
                    cells++;
                }
            }
        }
        return cells;
    }

    public int way(int x, int y, int toX, int toY) {
        if (!now.plan.isCell(x, y) || !now.plan.isCell(toX, toY)) {
            return WRONG;
        }
        if (now.plan.isBasin(x, y) || now.plan.isBasin(toX, toY)) {
            return NONE;
        }
        return walk.driest(now, cellOf(x, y), cellOf(toX, toY));
    }

    // ---- images and rows ----

    public int keep(int k) {
        if (!isWithin(k, 0, IMAGES - 1)) {
            return WRONG;
        }
        if (images[k] == null) {
            images[k] = new Scene();
        }
        images[k].copyFrom(now);
        return 0;
    }

    public int back(int k) {
        if (!isWithin(k, 0, IMAGES - 1)) {
            return WRONG;
        }
        if (images[k] == null) {
            return EMPTY;
        }
        now.copyFrom(images[k]);
        return 0;
    }

    public int row(int slot, int width, int n) {
        if (!isSlot(slot) || !isWithin(width, 0, 3) || n > ROW_MOST) {
            return WRONG;
        }
        if (n < 0) {
            return BELOW_ZERO;
        }
        rows[slot].begin(width, n);
        return 0;
    }

    public int write(int slot, int i, long v) {
        if (!isSlot(slot)) {
            return WRONG;
        }
        if (!rows[slot].has) {
            return EMPTY;
        }
        if (i < 0 || i >= rows[slot].length) {
            return NO_NUMBER;
        }
        rows[slot].numbers[i] = rows[slot].cut(v);
        return 0;
    }

    public int paste(int slot, int i, int to, int k, int n) {
        if (!isSlot(slot) || !isSlot(to)) {
            return WRONG;
        }
        Row source = rows[slot];
        Row target = rows[to];
        if (!source.has || !target.has) {
            return EMPTY;
        }
        if (source.width != target.width) {
            return OTHER_WIDTH;
        }
        if (!source.holds(i, n) || !target.holds(k, n)) {
            return NO_NUMBER;
        }
        System.arraycopy(source.numbers, i, target.numbers, k, n);
        return 0;
    }

    // ---- what calls share ----

    private static boolean isWithin(int number, int least, int most) {
        return number >= least && number <= most;
    }

    private static boolean isWind(int wind) {
        return isWithin(wind, 0, WINDS - 1);
    }

    private static boolean isWay(int way) {
        return isWithin(way, 0, WAYS - 1);
    }

    private static boolean isSlot(int slot) {
        return isWithin(slot, 0, SLOTS - 1);
    }

    private static int placeOf(int x, int y) {
        return x + 100 * y;
    }

    private static int cellOf(int x, int y) {
        return SIDE_MOST * y + x;
    }

    private static int paceOf(int high) {
        int v = 0;
        while (v < PACE_MOST && v * (v + 1) / 2 < high) {
            v++;
        }
        return v;
    }

    private static int flightOf(int high) {
        return 2 * paceOf(high);
    }

    private boolean hasSquare() {
        return now.plan.lines > 0;
    }

    private boolean isSize(int size) {
        return isWithin(size, 0, now.plan.sizes - 1);
    }

    private boolean isTable(int table) {
        return isWithin(table, 0, now.plan.tables - 1);
    }

    private boolean isThrow(int size, int high, int wind) {
        return isSize(size) && isWithin(high, 1, HIGH_MOST) && isWind(wind);
    }

    private boolean areGusts(int seed, int wind, int n, int odds) {
        return hasSquare() && isWithin(seed, 0, 2000000000) && isWind(wind)
                && isWithin(n, 0, BEATS_MOST) && isWithin(odds, 0, 100);
    }

    private boolean isThought(int slot, int what) {
        return isWithin(what, 0, 5) && refusalOf(slot) == 0;
    }

    /** What day() answers without a BEAT; 0, if the row can be played. */
    private int refusalOf(int slot) {
        if (!isSlot(slot) || !hasSquare()) {
            return WRONG;
        }
        if (!rows[slot].has) {
            return EMPTY;
        }
        return rows[slot].isOfWinds() ? 0 : WRONG;
    }

    private int blowMany(int wind, int n) {
        if (!hasSquare() || !isWind(wind)) {
            return WRONG;
        }
        int astray = 0;
        for (int i = 0; i < n; i++) {
            astray += now.playWind(wind);
        }
        return astray;
    }

    private int countRows() {
        int many = 0;
        for (int i = 0; i < SLOTS; i++) {
            if (rows[i].has) {
                many++;
            }
        }
        return many;
    }

    /** The least HIGH from which something comes on the TABLE's CELL; 61 without. */
    private int lowestHit(int table, int wind) {
        int place = now.plan.tablePlace(table);
        for (int high = 1; high <= HIGH_MOST; high++) {
            if (now.plan.sizesHitting(place, flightOf(high), wind) != 0) {
                return high;
            }
        }
        return HIGH_MOST + 1;
    }

    private boolean makesMarks(Row row, int flight, int wind) {
        for (int i = 0; i < row.length; i++) {
            long mark = row.numbers[i];
            if (mark < 0 || mark > placeOf(SIDE_MOST, SIDE_MOST)
                    || now.plan.sizesHitting((int) mark, flight, wind) == 0) {
                return false;
            }
        }
        return true;
    }

    private void beginDream() {
        dream.copyFrom(now);
    }

    /** The DAY of thought(), from what stands in the dream. */
    private void dreamDay(int slot) {
        Row row = rows[slot];
        for (int i = 0; i < row.length; i++) {
            dream.playWind(row.windAt(i));
        }
        dream.air.dropAll(dream.plan);
    }

    private void dreamByHigh(int slot, int high) {
        beginDream();
        dream.plan.high = high;
        dreamDay(slot);
    }

    private int dreamByStand(int slot, int x, int y) {
        beginDream();
        dream.plan.jetX = x;
        dream.plan.jetY = y;
        dreamDay(slot);
        return gainOf(4);
    }

    private int valueByLag(int slot, int lag) {
        beginDream();
        dream.plan.lag = lag;
        dreamDay(slot);
        return gainOf(0) - gainOf(4);
    }

    private int dreamStrays() {
        return gainOf(1) + gainOf(2);
    }

    /** What the day that was dreamt has more than now, by the what of thought(). */
    private int gainOf(int what) {
        switch (what) {
            case 0:
                return dream.air.show - now.air.show;
            case 1:
                return dream.air.lost - now.air.lost;
            case 2:
                return dream.air.onCells - now.air.onCells;
            case 3:
                return dream.tablesOver();
            case 4:
                return dream.allTablesWet() - now.allTablesWet();
            default:
                return dream.air.caught - now.air.caught;
        }
    }

    /** The TAPE, and the TOKEN of it that is looked at. */
    private static final class Tape {
        final byte[] bytes = new byte[TAPE_MOST];
        int length;
        int kind;
        int start;
        int stop;

        void append(int four) {
            for (int shift = 24; shift >= 0 && length < TAPE_MOST; shift -= 8) {
                bytes[length] = (byte) (four >> shift);
                length++;
            }
        }

        void rewind() {
            stop = 0;
            step();
        }

        void step() {
            int at = stop;
            while (at < length && (bytes[at] == 32 || bytes[at] == 10)) {
                at++;
            }
            start = at;
            kind = kindAt(at);
            if (kind == TOKEN_WORD || kind == TOKEN_NUMBER) {
                while (at < length && kindAt(at) == kind) {
                    at++;
                }
            } else if (kind != TOKEN_END) {
                at++;
            }
            stop = at;
        }

        private int kindAt(int at) {
            if (at >= length) {
                return TOKEN_END;
            }
            int sign = bytes[at];
            if (sign >= 'a' && sign <= 'z') {
                return TOKEN_WORD;
            }
            if (sign >= '0' && sign <= '9') {
                return TOKEN_NUMBER;
            }
            return sign == ';' ? TOKEN_SIGN : TOKEN_STRANGE;
        }

        boolean isWord(String word) {
            if (kind != TOKEN_WORD || stop - start != word.length()) {
                return false;
            }
            for (int i = 0; i < word.length(); i++) {
                if (bytes[start + i] != word.charAt(i)) {
                    return false;
                }
            }
            return true;
        }

        /** The number that is looked at; a long one stays at a million, beyond all bounds. */
        int value() {
            int value = 0;
            for (int i = start; i < stop; i++) {
                value = Math.min(1000000, 10 * value + bytes[i] - '0');
            }
            return value;
        }
    }

    /** Reads the TAPE to a plan; behind the first FAULT nothing more is read. */
    private static final class Teller {
        final Tape tape;
        final Plan plan;
        int fault;
        int place = NONE;
        boolean jetTold;
        boolean vaneTold;
        /** The wind of the latest RULE; NONE ahead of any. */
        int ruleTold;

        Teller(Tape tape, Plan plan) {
            this.tape = tape;
            this.plan = plan;
        }

        boolean readsAll() {
            fault = 0;
            place = NONE;
            jetTold = false;
            vaneTold = false;
            ruleTold = NONE;
            plan.clear();
            tape.rewind();
            for (int i = 0; i < TAPE_MOST && fault == 0 && tape.kind != TOKEN_END; i++) {
                readLine();
            }
            return fault == 0;
        }

        private void readLine() {
            if (plan.lines == 0) {
                readSquare();
            } else if (tape.isWord("jet")) {
                readJet();
            } else if (tape.isWord("size")) {
                readSize();
            } else if (tape.isWord("table")) {
                readTable();
            } else if (tape.isWord("road")) {
                readRoad();
            } else if (tape.isWord("vane")) {
                readVane();
            } else if (tape.isWord("rule")) {
                readRule();
            } else {
                note(1);
            }
            readSign();
        }

        private void readSquare() {
            readWord("square");
            readWord("wide");
            plan.wide = readNumber(5, SIDE_MOST);
            readWord("long");
            plan.length = readNumber(5, SIDE_MOST);
            plan.jetX = plan.wide / 2;
            plan.jetY = plan.length / 2;
            plan.half = 1;
            plan.high = 30;
            plan.climb = HIGH_MOST;
        }

        private void readJet() {
            readOnce(jetTold);
            jetTold = true;
            readWord("jet");
            readWord("at");
            plan.jetX = readNumber(0, plan.wide - 1);
            plan.jetY = readNumber(0, plan.length - 1);
            readWord("half");
            plan.half = readNumber(0, 9);
            readWord("high");
            plan.high = readNumber(0, HIGH_MOST);
        }

        private void readSize() {
            int size = plan.sizes;
            if (size >= SIZES_MOST) {
                note(3);
                return;
            }
            readWord("size");
            readWord("drag");
            plan.drag[size] = readNumber(0, 99);
            readWord("share");
            plan.share[size] = readNumber(1, 9);
            plan.sizes++;
        }

        private void readTable() {
            int table = plan.tables;
            if (table >= TABLES_MOST) {
                note(3);
                return;
            }
            readWord("table");
            readWord("at");
            plan.tableX[table] = readNumber(0, plan.wide - 1);
            plan.tableY[table] = readNumber(0, plan.length - 1);
            readWord("most");
            plan.tableMost[table] = readNumber(0, 999);
            plan.tables++;
        }

        private void readRoad() {
            readOnce(plan.road != NONE);
            readWord("road");
            plan.road = readNumber(0, plan.length - 1);
        }

        private void readVane() {
            readOnce(vaneTold);
            vaneTold = true;
            readWord("vane");
            readWord("lag");
            plan.lag = readNumber(0, LAG_MOST);
            readWord("climb");
            plan.climb = readNumber(1, HIGH_MOST);
        }

        private void readRule() {
            if (plan.rules >= RULES_MOST) {
                note(3);
                return;
            }
            readWord("rule");
            readWord("wind");
            int wind = readNumber(ruleTold + 1, STRENGTHS - 1);
            readWord("high");
            plan.addRule(wind, readNumber(0, HIGH_MOST));
            ruleTold = wind;
        }

        private void readOnce(boolean told) {
            if (told) {
                note(2);
            }
        }

        private void readWord(String word) {
            if (fault != 0) {
                return;
            }
            if (tape.isWord(word)) {
                tape.step();
            } else {
                note(1);
            }
        }

        private int readNumber(int least, int most) {
            if (fault != 0) {
                return 0;
            }
            if (tape.kind != TOKEN_NUMBER) {
                note(1);
                return 0;
            }
            int number = tape.value();
            if (isWithin(number, least, most)) {
                tape.step();
            } else {
                note(2);
            }
            return number;
        }

        private void readSign() {
            if (fault != 0) {
                return;
            }
            if (tape.kind == TOKEN_SIGN) {
                plan.lines++;
                tape.step();
            } else {
                note(1);
            }
        }

        private void note(int number) {
            if (fault == 0) {
                fault = number;
                place = tape.start;
            }
        }
    }

    /** The SQUARE as it is told; without LINES there is none. */
    private static final class Plan {
        int lines;
        int wide;
        int length;
        int jetX;
        int jetY;
        int half;
        int high;
        int road;
        int lag;
        /** The lag of a second vane; NONE without. */
        int secondLag;
        int climb;
        int sizes;
        final int[] drag = new int[SIZES_MOST];
        final int[] share = new int[SIZES_MOST];
        int tables;
        final int[] tableX = new int[TABLES_MOST];
        final int[] tableY = new int[TABLES_MOST];
        final int[] tableMost = new int[TABLES_MOST];
        int rules;
        /** By STRENGTH that is SEEN, the HIGH of the RULE that holds; HIGH_MOST without. */
        final int[] ruleHigh = new int[STRENGTHS];

        Plan() {
            clear();
        }

        void clear() {
            lines = 0;
            wide = 0;
            length = 0;
            jetX = 0;
            jetY = 0;
            half = 0;
            high = 0;
            road = NONE;
            lag = 0;
            secondLag = NONE;
            climb = 0;
            sizes = 0;
            tables = 0;
            dropRules();
        }

        void copyFrom(Plan other) {
            lines = other.lines;
            wide = other.wide;
            length = other.length;
            jetX = other.jetX;
            jetY = other.jetY;
            half = other.half;
            high = other.high;
            road = other.road;
            lag = other.lag;
            secondLag = other.secondLag;
            climb = other.climb;
            sizes = other.sizes;
            tables = other.tables;
            rules = other.rules;
            System.arraycopy(other.drag, 0, drag, 0, SIZES_MOST);
            System.arraycopy(other.share, 0, share, 0, SIZES_MOST);
            System.arraycopy(other.tableX, 0, tableX, 0, TABLES_MOST);
            System.arraycopy(other.tableY, 0, tableY, 0, TABLES_MOST);
            System.arraycopy(other.tableMost, 0, tableMost, 0, TABLES_MOST);
            System.arraycopy(other.ruleHigh, 0, ruleHigh, 0, STRENGTHS);
        }

        /** Of RULES the winds rise, so each one holds from its wind on till the next. */
        void addRule(int wind, int itsHigh) {
            rules++;
            for (int strength = wind; strength < STRENGTHS; strength++) {
                ruleHigh[strength] = itsHigh;
            }
        }

        void dropRules() {
            rules = 0;
            Arrays.fill(ruleHigh, HIGH_MOST);
        }

        boolean isCell(int x, int y) {
            return x >= 0 && x < wide && y >= 0 && y < length;
        }

        boolean isBasin(int x, int y) {
            return isWithin(x, jetX - half, jetX + half) && isWithin(y, jetY - half, jetY + half);
        }

        /**
         * The place of the CELL where a drop comes; IN_BASIN, or NONE beyond the square. It calls
         * nothing, as it stands at the end of the longest chain of calls (LANGUAGE.md, rule 11).
         */
        int placeHit(int x, int y) {
            if (x >= jetX - half && x <= jetX + half && y >= jetY - half && y <= jetY + half) {
                return IN_BASIN;
            }
            return x >= 0 && x < wide && y >= 0 && y < length ? x + 100 * y : NONE;
        }

        int highLetBy(int strength) {
            return Math.min(high, ruleHigh[strength]);
        }

        int steadyDrift(int size, int flight, int wind) {
            return drag[size] * (wind % 10) * flight;
        }

        int steadyPlace(int size, int flight, int wind) {
            int cells = steadyDrift(size, flight, wind) / 100;
            return placeHit(jetX + cells * WAY_X[wind / 10], jetY + cells * WAY_Y[wind / 10]);
        }

        int sizesHitting(int place, int flight, int wind) {
            int bits = 0;
            for (int size = 0; size < sizes; size++) {
                if (steadyPlace(size, flight, wind) == place) {
                    bits |= 1 << size;
                }
            }
            return bits;
        }

        int strayFrom(int itsHigh, int wind) {
            int flight = flightOf(itsHigh);
            int drops = 0;
            for (int size = 0; size < sizes; size++) {
                if (steadyPlace(size, flight, wind) != IN_BASIN) {
                    drops += share[size];
                }
            }
            return drops;
        }

        int tablePlace(int table) {
            return placeOf(tableX[table], tableY[table]);
        }

        boolean hasRoomFor(int table, int x, int y) {
            for (int i = 0; i < tables; i++) {
                if (i != table && tableX[i] == x && tableY[i] == y) {
                    return false;
                }
            }
            return !isBasin(x, y);
        }

        boolean showsBow(int x, int y, int way) {
            int ahead = (jetX - x) * WAY_X[way] + (jetY - y) * WAY_Y[way];
            int aside = Math.abs((jetX - x) * WAY_Y[way]) + Math.abs((jetY - y) * WAY_X[way]);
            return ahead > 0 && aside <= ahead / 2;
        }
    }

    /** What BEATS have done: winds, HIGH, LUMPS in the air, what is WET. */
    private static final class Air {
        int beats;
        int high;
        int show;
        int seen = NONE;
        int caught;
        int lost;
        int onCells;
        int thrown;
        /** The WIND of a BEAT stands at its number's last bits, as does the LUMP that it threw. */
        final int[] winds = new int[RING];
        /** PACE of the LUMP that the BEAT threw; 0: there is none in the air. */
        final int[] paces = new int[RING];
        final int[] fromX = new int[RING];
        final int[] fromY = new int[RING];
        /** How far drops of a SIZE would have drifted since square(): one sum for all LUMPS. */
        final int[] driftX = new int[SIZES_MOST];
        final int[] driftY = new int[SIZES_MOST];
        /** These sums as a LUMP was thrown, of each of its SIZES. */
        final int[] startX = new int[RING * SIZES_MOST];
        final int[] startY = new int[RING * SIZES_MOST];
        final int[] wet = new int[CELLS_MOST];

        void clear() {
            beats = 0;
            high = 0;
            show = 0;
            seen = NONE;
            caught = 0;
            lost = 0;
            onCells = 0;
            thrown = 0;
            Arrays.fill(paces, 0);
            Arrays.fill(driftX, 0);
            Arrays.fill(driftY, 0);
            Arrays.fill(wet, 0);
        }

        void copyFrom(Air other) {
            beats = other.beats;
            high = other.high;
            show = other.show;
            seen = other.seen;
            caught = other.caught;
            lost = other.lost;
            onCells = other.onCells;
            thrown = other.thrown;
            System.arraycopy(other.winds, 0, winds, 0, RING);
            System.arraycopy(other.paces, 0, paces, 0, RING);
            System.arraycopy(other.fromX, 0, fromX, 0, RING);
            System.arraycopy(other.fromY, 0, fromY, 0, RING);
            System.arraycopy(other.driftX, 0, driftX, 0, SIZES_MOST);
            System.arraycopy(other.driftY, 0, driftY, 0, SIZES_MOST);
            System.arraycopy(other.startX, 0, startX, 0, RING * SIZES_MOST);
            System.arraycopy(other.startY, 0, startY, 0, RING * SIZES_MOST);
            System.arraycopy(other.wet, 0, wet, 0, CELLS_MOST);
        }

        int wetAt(int x, int y) {
            return wet[SIDE_MOST * y + x];
        }

        int dropsUp() {
            return thrown - caught - lost - onCells;
        }

        int lumpsUp() {
            int lumps = 0;
            for (int i = 0; i < RING; i++) {
                if (paces[i] > 0) {
                    lumps++;
                }
            }
            return lumps;
        }

        void driftAll(Plan plan, int wind) {
            int strength = wind % 10;
            int stepX = strength * WAY_X[wind / 10];
            int stepY = strength * WAY_Y[wind / 10];
            for (int size = 0; size < plan.sizes; size++) {
                driftX[size] += plan.drag[size] * stepX;
                driftY[size] += plan.drag[size] * stepY;
            }
        }

        /** As WIND 0 drifts nothing, all that is up comes down where it is now. */
        void dropAll(Plan plan) {
            for (int lump = 0; lump < RING; lump++) {
                if (paces[lump] > 0) {
                    dropLump(plan, lump);
                }
            }
        }

        void dropLump(Plan plan, int lump) {
            for (int size = 0; size < plan.sizes; size++) {
                int place = placeIn(plan, lump, size, 0, 0);
                if (place == IN_BASIN) {
                    caught += plan.share[size];
                } else if (place == NONE) {
                    lost += plan.share[size];
                } else {
                    onCells += plan.share[size];
                    wet[cellOf(place % 100, place / 100)] += plan.share[size];
                }
            }
            paces[lump] = 0;
        }

        /** Where drops of a LUMP come, if they drift so many times their drag more. */
        int placeIn(Plan plan, int lump, int size, int moreX, int moreY) {
            int start = lump * SIZES_MOST + size;
            int x = driftX[size] - startX[start] + plan.drag[size] * moreX;
            int y = driftY[size] - startY[start] + plan.drag[size] * moreY;
            return plan.placeHit(fromX[lump] + x / 100, fromY[lump] + y / 100);
        }

        /** In how many BEATS from now on a LUMP in the air lands. */
        int beatsLeft(int lump) {
            return 2 * paces[lump] - ((beats - 1 - lump) & RING_MASK);
        }

        void throwLump(Plan plan, int wind) {
            int lump = beats & RING_MASK;
            winds[lump] = wind;
            seen = windAgo(plan.lag);
            int strength = seen % 10;
            if (plan.secondLag != NONE) {
                strength = Math.max(strength, windAgo(plan.secondLag) % 10);
            }
            high = Math.min(plan.highLetBy(strength), high + plan.climb);
            show += high;
            paces[lump] = paceOf(high);
            fromX[lump] = plan.jetX;
            fromY[lump] = plan.jetY;
            for (int size = 0; size < plan.sizes && high > 0; size++) {
                startX[lump * SIZES_MOST + size] = driftX[size];
                startY[lump * SIZES_MOST + size] = driftY[size];
                thrown += plan.share[size];
            }
            beats++;
        }

        private int windAgo(int lag) {
            return lag > beats ? 0 : winds[(beats - lag) & RING_MASK];
        }
    }

    /** A SQUARE and what BEATS have done on it: what is now, is thought, or is kept. */
    private static final class Scene {
        final Plan plan = new Plan();
        final Air air = new Air();

        void copyFrom(Scene other) {
            plan.copyFrom(other.plan);
            air.copyFrom(other.air);
        }

        /** A BEAT: how many drops were LOST or came on CELLS in it. */
        int playWind(int wind) {
            int before = air.lost + air.onCells;
            air.driftAll(plan, wind);
            for (int pace = 1; pace <= PACE_MOST; pace++) {
                int lump = (air.beats - 2 * pace) & RING_MASK;
                if (air.paces[lump] == pace) {
                    air.dropLump(plan, lump);
                }
            }
            air.throwLump(plan, wind);
            return air.lost + air.onCells - before;
        }

        int playRow(Row row) {
            int astray = 0;
            for (int i = 0; i < row.length; i++) {
                astray += playWind(row.windAt(i));
            }
            return astray;
        }

        int playGusts(int seed, int wind, int n, int odds) {
            int strong = wind - wind % 10 + 9;
            long x = seed;
            int astray = 0;
            for (int i = 0; i < n; i++) {
                x = (1103515245L * x + 12345L) & 0x7fffffffL;
                boolean gust = x / 65536 % 100 < odds;
                astray += playWind(gust ? strong : wind);
            }
            return astray;
        }

        int tableWet(int table) {
            return air.wetAt(plan.tableX[table], plan.tableY[table]);
        }

        int allTablesWet() {
            int wetness = 0;
            for (int table = 0; table < plan.tables; table++) {
                wetness += tableWet(table);
            }
            return wetness;
        }

        boolean isOver(int table) {
            return tableWet(table) > plan.tableMost[table];
        }

        int tablesOver() {
            int bits = 0;
            for (int table = 0; table < plan.tables; table++) {
                if (isOver(table)) {
                    bits |= 1 << table;
                }
            }
            return bits;
        }

        int roadWet() {
            if (plan.road == NONE) {
                return NONE;
            }
            int wetness = 0;
            for (int x = 0; x < plan.wide; x++) {
                wetness += air.wetAt(x, plan.road);
            }
            return wetness;
        }

        int dropsComing(int table, int wind) {
            int place = plan.tablePlace(table);
            int drops = 0;
            for (int lump = 0; lump < RING; lump++) {
                for (int size = 0; size < plan.sizes; size++) {
                    if (air.paces[lump] > 0 && placeBy(lump, size, wind) == place) {
                        drops += plan.share[size];
                    }
                }
            }
            return drops;
        }

        int dropsStraying(int wind) {
            int drops = 0;
            for (int lump = 0; lump < RING; lump++) {
                for (int size = 0; size < plan.sizes; size++) {
                    if (air.paces[lump] > 0 && placeBy(lump, size, wind) != IN_BASIN) {
                        drops += plan.share[size];
                    }
                }
            }
            return drops;
        }

        int lastComing(int table, int wind) {
            int place = plan.tablePlace(table);
            int latest = 0;
            for (int lump = 0; lump < RING; lump++) {
                for (int size = 0; size < plan.sizes; size++) {
                    if (air.paces[lump] > 0 && placeBy(lump, size, wind) == place) {
                        latest = Math.max(latest, air.beatsLeft(lump));
                    }
                }
            }
            return latest;
        }

        /** Where drops in the air come, if the WIND is this till they land. */
        private int placeBy(int lump, int size, int wind) {
            int strengths = air.beatsLeft(lump) * (wind % 10);
            int way = wind / 10;
            return air.placeIn(plan, lump, size, strengths * WAY_X[way], strengths * WAY_Y[way]);
        }
    }

    /** A SLOT and its row. */
    private static final class Row {
        boolean has;
        int width;
        int length;
        final long[] numbers = new long[ROW_MOST];

        void begin(int itsWidth, int n) {
            has = true;
            width = itsWidth;
            length = n;
            Arrays.fill(numbers, 0L);
        }

        long cut(long v) {
            switch (width) {
                case 0:
                    return (byte) v;
                case 1:
                    return (short) v;
                case 2:
                    return (int) v;
                default:
                    return v;
            }
        }

        boolean holds(int from, int n) {
            return from >= 0 && n >= 0 && n <= length && from <= length - n;
        }

        boolean isOfWinds() {
            for (int i = 0; i < length; i++) {
                if (numbers[i] < 0 || numbers[i] >= WINDS) {
                    return false;
                }
            }
            return true;
        }

        int windAt(int i) {
            return (int) numbers[i];
        }
    }

    /** Finds the driest way; its costs are made once, as many calls use them. */
    private static final class Walk {
        private static final int FAR = 2147483647;

        final int[] costs = new int[CELLS_MOST];

        int driest(Scene scene, int from, int to) {
            Arrays.fill(costs, FAR);
            costs[from] = scene.air.wet[from];
            boolean better = true;
            for (int round = 0; round < CELLS_MOST && better; round++) {
                better = sweep(scene, true);
                better |= sweep(scene, false);
            }
            return costs[to] == FAR ? NONE : costs[to];
        }

        /** Sweeps both ways let costs run along most ways in few rounds. */
        private boolean sweep(Scene scene, boolean onward) {
            int wide = scene.plan.wide;
            int length = scene.plan.length;
            boolean better = false;
            for (int i = 0; i < length; i++) {
                int y = onward ? i : length - 1 - i;
                for (int j = 0; j < wide; j++) {
                    int x = onward ? j : wide - 1 - j;
                    if (!scene.plan.isBasin(x, y)) {
                        better |= ease(scene, x, y);
                    }
                }
            }
            return better;
        }

        private boolean ease(Scene scene, int x, int y) {
            int nearest = FAR;
            for (int way = 0; way < WAYS; way++) {
                int besideX = x + WAY_X[way];
                int besideY = y + WAY_Y[way];
                if (scene.plan.isCell(besideX, besideY)) {
                    nearest = Math.min(nearest, costs[cellOf(besideX, besideY)]);
                }
            }
            int cell = cellOf(x, y);
            if (nearest == FAR || nearest + scene.air.wet[cell] >= costs[cell]) {
                return false;
            }
            costs[cell] = nearest + scene.air.wet[cell];
            return true;
        }
    }
}
