import java.util.ArrayList;
import java.util.List;
import java.util.function.BiConsumer;
import java.util.function.IntPredicate;

/**
 * The document in its plainest form, slow and without regard to LANGUAGE.md: every drop flies by
 * itself, beat by beat, and what is thought is a copy that is played. ModelTest holds TableNine to it.
 */
final class Model {
    static final int NOTHING = -1000000;

    static final class Drop {
        int size, fromX, fromY, driftX, driftY, left, lump;

        Drop copy() {
            Drop d = new Drop();
            d.size = size;
            d.fromX = fromX;
            d.fromY = fromY;
            d.driftX = driftX;
            d.driftY = driftY;
            d.left = left;
            d.lump = lump;
            return d;
        }
    }

    static final class World {
        int wide, length, jetX, jetY, half, high, road = -1, lag, second = -1, climb, lines;
        List<int[]> sizes = new ArrayList<>(), tables = new ArrayList<>(), rules = new ArrayList<>();
        List<Drop> air = new ArrayList<>();
        List<Integer> winds = new ArrayList<>(), highs = new ArrayList<>();
        int[][] wet = new int[30][30];
        int caught, lost, cells, thrown, seen = -1;

        World copy() {
            World w = new World();
            w.wide = wide;
            w.length = length;
            w.jetX = jetX;
            w.jetY = jetY;
            w.half = half;
            w.high = high;
            w.road = road;
            w.lag = lag;
            w.second = second;
            w.climb = climb;
            w.lines = lines;
            for (int[] s : sizes) w.sizes.add(s.clone());
            for (int[] t : tables) w.tables.add(t.clone());
            for (int[] r : rules) w.rules.add(r.clone());
            for (Drop d : air) w.air.add(d.copy());
            w.winds.addAll(winds);
            w.highs.addAll(highs);
            for (int i = 0; i < 30; i++) w.wet[i] = wet[i].clone();
            w.caught = caught;
            w.lost = lost;
            w.cells = cells;
            w.thrown = thrown;
            w.seen = seen;
            return w;
        }

        boolean cell(int x, int y) {
            return 0 <= x && x < wide && 0 <= y && y < length;
        }

        boolean basin(int x, int y) {
            return Math.abs(x - jetX) <= half && Math.abs(y - jetY) <= half;
        }

        int ago(int lagged) {
            int at = winds.size() - 1 - lagged;
            return at < 0 ? 0 : winds.get(at);
        }

        int lets(int strength) {
            int let = high;
            int[] holds = null;
            for (int[] r : rules) if (r[0] <= strength) holds = r;
            return holds == null ? let : Math.min(let, holds[1]);
        }

        void fly(int wind, List<Drop> landed) {
            int s = wind % 10;
            List<Drop> still = new ArrayList<>();
            for (Drop d : air) {
                int by = sizes.get(d.size)[0] * s;
                if (wind / 10 == 0) d.driftY -= by;
                if (wind / 10 == 1) d.driftX += by;
                if (wind / 10 == 2) d.driftY += by;
                if (wind / 10 == 3) d.driftX -= by;
                d.left--;
                (d.left == 0 ? landed : still).add(d);
            }
            air = still;
        }

        int x(Drop d) {
            return d.fromX + d.driftX / 100;
        }

        int y(Drop d) {
            return d.fromY + d.driftY / 100;
        }

        int settle(List<Drop> landed) {
            int astray = 0;
            for (Drop d : landed) {
                if (basin(x(d), y(d))) {
                    caught++;
                } else {
                    astray++;
                    if (cell(x(d), y(d))) {
                        cells++;
                        wet[y(d)][x(d)]++;
                    } else {
                        lost++;
                    }
                }
            }
            return astray;
        }

        int beat(int wind, boolean goesUp) {
            List<Drop> landed = new ArrayList<>();
            fly(wind, landed);
            int astray = settle(landed);
            winds.add(wind);
            if (!goesUp) {
                highs.add(0);
                return astray;
            }
            seen = ago(lag);
            int strength = seen % 10;
            if (second >= 0 && ago(second) % 10 > strength) strength = ago(second) % 10;
            int h = Math.min(lets(strength), last() + climb);
            highs.add(h);
            if (h > 0) {
                for (int s = 0; s < sizes.size(); s++) {
                    for (int i = 0; i < sizes.get(s)[1]; i++) {
                        Drop d = new Drop();
                        d.size = s;
                        d.fromX = jetX;
                        d.fromY = jetY;
                        d.left = 2 * Model.pace(h);
                        d.lump = winds.size();
                        air.add(d);
                        thrown++;
                    }
                }
            }
            return astray;
        }

        int last() {
            return highs.isEmpty() ? 0 : highs.get(highs.size() - 1);
        }

        int show() {
            int sum = 0;
            for (int h : highs) sum += h;
            return sum;
        }

        int wetOf(int table) {
            return wet[tables.get(table)[1]][tables.get(table)[0]];
        }

        int tablesWet() {
            int sum = 0;
            for (int t = 0; t < tables.size(); t++) sum += wetOf(t);
            return sum;
        }

        int bits(IntPredicate p) {
            int bits = 0;
            for (int t = 0; t < tables.size(); t++) if (p.test(t)) bits += 1 << t;
            return bits;
        }

        int over() {
            return bits(t -> wetOf(t) > tables.get(t)[2]);
        }

        int ice() {
            int sum = 0;
            for (int x = 0; x < wide; x++) sum += wet[road][x];
            return sum;
        }

        /** One drop of a SIZE alone, thrown to a HIGH, flown by a steady wind. */
        Drop alone(int size, int h, int wind) {
            World w = copy();
            w.air.clear();
            Drop d = new Drop();
            d.size = size;
            d.fromX = jetX;
            d.fromY = jetY;
            d.left = 2 * Model.pace(h);
            w.air.add(d);
            List<Drop> landed = new ArrayList<>();
            for (int i = 0; i < 2 * Model.pace(h); i++) w.fly(wind, landed);
            return d;
        }

        boolean hits(Drop d, int x, int y) {
            return !basin(x(d), y(d)) && x(d) == x && y(d) == y;
        }

        World day(List<Long> row) {
            World w = copy();
            for (long wind : row) w.beat((int) wind, true);
            while (!w.air.isEmpty()) w.beat(0, false);
            return w;
        }
    }

    World now = new World();
    World[] images = new World[3];
    StringBuilder tape = new StringBuilder();
    int fault = 0, place = -1;
    List<List<Long>> rows = new ArrayList<>();
    int[] widths = new int[4];

    Model() {
        for (int i = 0; i < 4; i++) rows.add(null);
    }

    static int pace(int high) {
        int v = 0;
        while (v * (v + 1) / 2 < high) v++;
        return v;
    }

    // ---- the text ----

    int feed(int... fives) {
        if (tape.length() + 20 > 1600) return -1;
        for (int f : fives) for (int i = 3; i >= 0; i--) tape.append((char) (f >>> 8 * i & 255));
        return tape.length();
    }

    int end(int n) {
        if (n < 0 || n > tape.length()) return -1;
        tape.setLength(n);
        return n;
    }

    private static final class Fault extends RuntimeException {
        private static final long serialVersionUID = 1;

        final int number, place;

        Fault(int number, int place) {
            this.number = number;
            this.place = place;
        }
    }

    private List<String> tokens;
    private List<Integer> places;
    private int at;

    private void split(String text) {
        tokens = new ArrayList<>();
        places = new ArrayList<>();
        java.util.regex.Matcher m = java.util.regex.Pattern.compile("[ \n]+|[a-z]+|[0-9]+|[\\x00-\\xff]", java.util.regex.Pattern.DOTALL).matcher(text);
        while (m.find()) {
            if (m.group().charAt(0) != ' ' && m.group().charAt(0) != '\n') {
                tokens.add(m.group());
                places.add(m.start());
            }
        }
        tokens.add("");
        places.add(text.length());
        at = 0;
    }

    private void word(String w) {
        if (!tokens.get(at).equals(w)) throw new Fault(1, places.get(at));
        at++;
    }

    private int number(int least, int most) {
        String t = tokens.get(at);
        if (!t.matches("[0-9]+")) throw new Fault(1, places.get(at));
        java.math.BigInteger v = new java.math.BigInteger(t);
        if (v.compareTo(java.math.BigInteger.valueOf(least)) < 0 || v.compareTo(java.math.BigInteger.valueOf(most)) > 0) throw new Fault(2, places.get(at));
        at++;
        return v.intValue();
    }

    private World read(String text) {
        split(text);
        World w = new World();
        List<String> told = new ArrayList<>();
        while (!tokens.get(at).isEmpty()) {
            String kind = tokens.get(at);
            int where = places.get(at);
            if ((w.lines == 0) != kind.equals("square")) throw new Fault(1, where);
            if (told.contains(kind) && List.of("jet", "road", "vane").contains(kind)) throw new Fault(2, where);
            told.add(kind);
            at++;
            if (kind.equals("square")) {
                word("wide");
                w.wide = number(5, 30);
                word("long");
                w.length = number(5, 30);
                w.jetX = w.wide / 2;
                w.jetY = w.length / 2;
                w.half = 1;
                w.high = 30;
                w.climb = 60;
            } else if (kind.equals("jet")) {
                word("at");
                w.jetX = number(0, w.wide - 1);
                w.jetY = number(0, w.length - 1);
                word("half");
                w.half = number(0, 9);
                word("high");
                w.high = number(0, 60);
            } else if (kind.equals("size")) {
                if (w.sizes.size() == 5) throw new Fault(3, where);
                word("drag");
                int drag = number(0, 99);
                word("share");
                w.sizes.add(new int[] {drag, number(1, 9)});
            } else if (kind.equals("table")) {
                if (w.tables.size() == 8) throw new Fault(3, where);
                word("at");
                int x = number(0, w.wide - 1);
                int y = number(0, w.length - 1);
                word("most");
                w.tables.add(new int[] {x, y, number(0, 999)});
            } else if (kind.equals("road")) {
                w.road = number(0, w.length - 1);
            } else if (kind.equals("vane")) {
                word("lag");
                w.lag = number(0, 20);
                word("climb");
                w.climb = number(1, 60);
            } else if (kind.equals("rule")) {
                if (w.rules.size() == 6) throw new Fault(3, where);
                word("wind");
                int wind = number(w.rules.isEmpty() ? 0 : w.rules.get(w.rules.size() - 1)[0] + 1, 9);
                word("high");
                w.rules.add(new int[] {wind, number(0, 60)});
            } else {
                throw new Fault(1, where);
            }
            word(";");
            w.lines++;
        }
        return w;
    }

    int square() {
        String text = tape.toString();
        tape.setLength(0);
        try {
            now = read(text);
            fault = 0;
            place = -1;
            return now.lines;
        } catch (Fault f) {
            fault = f.number;
            place = f.place;
            return -4;
        }
    }

    int fault(int what) {
        return what == 0 ? fault : what == 1 ? place : -1;
    }

    // ---- what there is ----

    private boolean in(int v, int a, int b) {
        return a <= v && v <= b;
    }

    private boolean none() {
        return now.lines == 0;
    }

    private boolean wind(int w) {
        return in(w, 0, 39);
    }

    private boolean size(int s) {
        return in(s, 0, now.sizes.size() - 1);
    }

    private boolean tab(int t) {
        return in(t, 0, now.tables.size() - 1);
    }

    private int dayCode(int slot) {
        if (!in(slot, 0, 3) || none()) return -2;
        if (rows.get(slot) == null) return -6;
        for (long w : rows.get(slot)) if (w < 0 || w > 39) return -2;
        return 0;
    }

    // ---- calls by name, so that a test can draw them ----

    int call(String name, int[] a) {
        switch (name) {
            case "end": return end(a[0]);
            case "square": return square();
            case "fault": return fault(a[0]);
            case "pace": return in(a[0], 0, 60) ? pace(a[0]) : -2;
            case "blow": return blows(a[0], 1);
            case "blows": return in(a[1], 0, 400) ? blows(a[0], a[1]) : -2;
            case "day": return day(a[0]);
            case "wet": return now.cell(a[0], a[1]) ? now.wet[a[1]][a[0]] : -2;
            case "table": return !tab(a[0]) || !in(a[1], 0, 3) ? -2 : a[1] == 3 ? now.wetOf(a[0]) : now.tables.get(a[0])[a[1]];
            case "over": return now.over();
            case "water": return water(a[0]);
            case "jet": return jet(a[0]);
            case "lets": return none() || !in(a[0], 0, 9) ? -2 : now.lets(a[0]);
            case "land": return land(a[0], a[1], a[2]);
            case "drift": return drift(a[0], a[1], a[2]);
            case "stray": return none() || !in(a[0], 0, 60) || !wind(a[1]) ? -2 : stray(a[0], a[1]);
            case "low": return low(a[0], a[1]);
            case "bound": return bound(a[0], a[1]);
            case "reach": return reach(a[0], a[1]);
            case "already": return !tab(a[0]) || !wind(a[1]) ? -2 : already(a[0], a[1])[0];
            case "coming": return coming(a[0]);
            case "worst": return worst(a[0]);
            case "thought": return thought(a[0], a[1], 1, w -> { });
            case "lagged": return !in(a[1], 0, 20) ? NOTHING : thought(a[0], a[2], 1, w -> w.lag = a[1]);
            case "worth": return worth(a[0]);
            case "most": return most(a[0], a[1]);
            case "rule": return rule(a[0]);
            case "half": return half(a[0], a[1]);
            case "nozzle": return nozzle(a[0], a[1]);
            case "fine": return fine(a[0], a[1], a[2]);
            case "ice": return now.road < 0 ? -1 : now.ice();
            case "shut": return shut(a[0], a[1]);
            case "marks": return marks(a[0], a[1], a[2]);
            case "span": return span(a[0], a[1], a[2], a[3]);
            case "where": return where(a[0], a[1]);
            case "move": return move(a[0], a[1], a[2]);
            case "bow": return !now.cell(a[0], a[1]) || !in(a[2], 0, 3) ? -2 : bow(a[0], a[1], a[2]);
            case "bows": return bows(a[0]);
            case "mist": return mist(a[0], a[1]);
            case "gusts": return !gustsFit(a[0], a[1], a[2], a[3]) ? -2 : gust(now, a[0], a[1], a[2], a[3]);
            case "winds": return winds(a[0], a[1], a[2]);
            case "two": return !in(a[1], 0, 20) ? NOTHING : thought(a[0], a[2], 1, w -> w.second = a[1]);
            case "climbs": return !in(a[1], 1, 60) ? NOTHING : thought(a[0], a[2], 1, w -> w.climb = a[1]);
            case "wear": return wear(a[0]);
            case "idle": return idle(a[0]);
            case "first": return first(a[0], a[1]);
            case "last": return !tab(a[0]) || !wind(a[1]) ? -2 : already(a[0], a[1])[1];
            case "sum": return sum(a[0], a[1], a[2], a[3]);
            case "wettest": return wettest(a[0]);
            case "small": return none() || !in(a[0], 1, 11) || !in(a[1], 0, 60) || !wind(a[2]) ? -2 : a[0] * stray(a[1] / a[0], a[2]);
            case "best": return best(a[0]);
            case "stand": return stand(a[0], a[1]);
            case "tall": return tall(a[0], a[1]);
            case "pays": return pays(a[0], a[1]);
            case "dry": return dry(a[0]);
            case "week": return !in(a[1], 1, 10) ? NOTHING : thought(a[0], a[2], a[1], w -> { });
            case "way": return way(a[0], a[1], a[2], a[3]);
            case "often": return often(a[0], a[1], a[2], a[3], a[4], a[5]);
            case "count": return count(a[0]);
            case "keep": return keep(a[0]);
            case "back": return back(a[0]);
            case "row": return row(a[0], a[1], a[2]);
            case "write": return write(a[0], a[1], a[2]);
            case "paste": return paste(a[0], a[1], a[2], a[3], a[4]);
            case "feed": return feed(a);
            default: throw new IllegalStateException(name);
        }
    }

    int blows(int wind, int n) {
        if (none() || !wind(wind)) return -2;
        int astray = 0;
        for (int i = 0; i < n; i++) astray += now.beat(wind, true);
        return astray;
    }

    int day(int slot) {
        int code = dayCode(slot);
        if (code != 0) return code;
        int astray = 0;
        for (long w : rows.get(slot)) astray += now.beat((int) w, true);
        return astray;
    }

    int water(int what) {
        switch (what) {
            case 0: return now.air.size();
            case 1: return (int) now.air.stream().map(d -> d.lump).distinct().count();
            case 2: return now.caught;
            case 3: return now.lost;
            case 4: return now.cells;
            case 5: return now.thrown;
            default: return -1;
        }
    }

    int jet(int what) {
        switch (what) {
            case 0: return now.last();
            case 1: return now.show();
            case 2: return now.winds.size();
            case 3: return now.seen;
            default: return -1;
        }
    }

    private boolean thrown(int size, int high, int wind) {
        return size(size) && in(high, 1, 60) && wind(wind);
    }

    int land(int size, int high, int wind) {
        if (!thrown(size, high, wind)) return -2;
        Drop d = now.alone(size, high, wind);
        return now.cell(now.x(d), now.y(d)) ? now.x(d) + 100 * now.y(d) : -1;
    }

    int drift(int size, int high, int wind) {
        if (!thrown(size, high, wind)) return -2;
        Drop d = now.alone(size, high, wind);
        return Math.abs(d.driftX) + Math.abs(d.driftY);
    }

    int stray(int high, int wind) {
        int n = 0;
        for (int s = 0; s < now.sizes.size(); s++) {
            Drop d = now.alone(s, high, wind);
            if (!now.basin(now.x(d), now.y(d))) n += now.sizes.get(s)[1];
        }
        return n;
    }

    int low(int wind, int n) {
        if (none() || !wind(wind) || !in(n, 0, 99)) return -2;
        int h = 0;
        while (h < 60 && stray(h + 1, wind) <= n) h++;
        return h;
    }

    private boolean hitsFrom(int high, int wind, int x, int y) {
        for (int s = 0; s < now.sizes.size(); s++) if (now.hits(now.alone(s, high, wind), x, y)) return true;
        return false;
    }

    int bound(int table, int wind) {
        if (!tab(table) || !wind(wind)) return -2;
        int[] t = now.tables.get(table);
        int h = 0;
        while (h < 60 && !hitsFrom(h + 1, wind, t[0], t[1])) h++;
        return h;
    }

    int reach(int table, int way) {
        if (!tab(table) || !in(way, 0, 3)) return -2;
        int[] t = now.tables.get(table);
        int bits = 0;
        for (int s = 0; s < 10; s++) {
            boolean any = false;
            for (int h = 1; h <= 60; h++) any |= hitsFrom(h, 10 * way + s, t[0], t[1]);
            if (any) bits += 1 << s;
        }
        return bits;
    }

    /** Drops that come on a TABLE, and the last BEAT in which one does. */
    int[] already(int table, int wind) {
        World w = now.copy();
        int[] t = w.tables.get(table);
        int n = 0, last = 0;
        for (int beat = 1; !w.air.isEmpty(); beat++) {
            List<Drop> landed = new ArrayList<>();
            w.fly(wind, landed);
            for (Drop d : landed) {
                if (w.hits(d, t[0], t[1])) {
                    n++;
                    last = beat;
                }
            }
        }
        return new int[] {n, last};
    }

    int coming(int wind) {
        if (none() || !wind(wind)) return -2;
        World w = now.copy();
        int n = 0;
        while (!w.air.isEmpty()) n += w.beat(wind, false);
        return n;
    }

    int worst(int table) {
        if (!tab(table)) return -2;
        int best = -1, most = 0;
        for (int w = 0; w < 40; w++) {
            int n = already(table, w)[0];
            if (n > most) {
                most = n;
                best = w;
            }
        }
        return best;
    }

    private int more(World w, int what) {
        switch (what) {
            case 0: return w.show() - now.show();
            case 1: return w.lost - now.lost;
            case 2: return w.cells - now.cells;
            case 3: return w.over();
            case 4: return w.tablesWet() - now.tablesWet();
            default: return w.caught - now.caught;
        }
    }

    interface Change {
        void on(World w);
    }

    private World dayBy(int slot, int times, Change change) {
        World w = now.copy();
        change.on(w);
        List<Long> row = new ArrayList<>();
        for (int i = 0; i < times; i++) row.addAll(rows.get(slot));
        return w.day(row);
    }

    int thought(int slot, int what, int times, Change change) {
        if (dayCode(slot) != 0 || !in(what, 0, 5)) return NOTHING;
        return more(dayBy(slot, times, change), what);
    }

    int worth(int slot) {
        if (dayCode(slot) != 0) return NOTHING;
        World at0 = dayBy(slot, 1, w -> w.lag = 0);
        World asIs = dayBy(slot, 1, w -> { });
        return more(at0, 0) - more(at0, 4) - (more(asIs, 0) - more(asIs, 4));
    }

    int most(int slot, int table) {
        if (!tab(table)) return -2;
        if (dayCode(slot) != 0) return dayCode(slot);
        for (int h = 60; h >= 0; h--) {
            int high = h;
            World w = dayBy(slot, 1, v -> v.high = high);
            if (w.wetOf(table) <= now.tables.get(table)[2] || w.wetOf(table) == now.wetOf(table)) return h;
        }
        return -1;
    }

    int rule(int slot) {
        if (dayCode(slot) != 0) return dayCode(slot);
        int best = -1, most = -1;
        for (int code = 0; code <= 960; code++) {
            int n = code / 100, h = code % 100;
            if (h % 10 != 0 || h > 60) continue;
            World w = dayBy(slot, 1, v -> {
                v.rules.clear();
                v.rules.add(new int[] {n, h});
            });
            if (w.over() == 0 && w.show() > most) {
                most = w.show();
                best = code;
            }
        }
        return best;
    }

    int half(int slot, int n) {
        if (!in(n, 0, 9999)) return -2;
        if (dayCode(slot) != 0) return dayCode(slot);
        for (int h = 0; h < 10; h++) {
            int half = h;
            World w = dayBy(slot, 1, v -> v.half = half);
            if (more(w, 1) + more(w, 2) <= n) return h;
        }
        return -1;
    }

    int nozzle(int size, int drag) {
        if (!size(size) || !in(drag, 0, 99)) return -2;
        int was = now.sizes.get(size)[0];
        now.sizes.get(size)[0] = drag;
        return was;
    }

    int fine(int size, int high, int wind) {
        if (!thrown(size, high, wind)) return -2;
        World w = now.copy();
        int best = -1;
        for (int drag = 0; drag <= 99; drag++) {
            w.sizes.get(size)[0] = drag;
            Drop d = w.alone(size, high, wind);
            if (w.basin(w.x(d), w.y(d))) best = drag;
        }
        return best;
    }

    int shut(int slot, int n) {
        if (!in(n, 1, 9999)) return -2;
        if (dayCode(slot) != 0) return dayCode(slot);
        if (now.road < 0) return -1;
        World w = now.copy();
        List<Long> row = rows.get(slot);
        for (int i = 0; i <= row.size(); i++) {
            if (w.ice() >= n) return i;
            if (i < row.size()) w.beat((int) (long) row.get(i), true);
        }
        return -1;
    }

    private List<int[]> ways(int x, int y, int high) {
        List<int[]> ways = new ArrayList<>();
        for (int s = 0; s < now.sizes.size(); s++) {
            for (int w = 0; w < 40; w++) {
                if (w % 10 > 0 && now.hits(now.alone(s, high, w), x, y)) ways.add(new int[] {s, w});
            }
        }
        return ways;
    }

    int marks(int x, int y, int high) {
        return !now.cell(x, y) || !in(high, 1, 60) ? -2 : ways(x, y, high).size();
    }

    int span(int x, int y, int high, int what) {
        if (!now.cell(x, y) || !in(high, 1, 60) || !in(what, 0, 3)) return -2;
        List<int[]> ways = ways(x, y, high);
        if (ways.isEmpty()) return -1;
        int bits = 0;
        for (int[] w : ways) bits |= 1 << (what == 2 ? w[1] / 10 : w[0]);
        if (what >= 2) return bits;
        return what == 0 ? ways.stream().mapToInt(w -> w[1] % 10).min().getAsInt() : ways.stream().mapToInt(w -> w[1] % 10).max().getAsInt();
    }

    private boolean free(int table, int x, int y) {
        for (int t = 0; t < now.tables.size(); t++) {
            if (t != table && now.tables.get(t)[0] == x && now.tables.get(t)[1] == y) return false;
        }
        return !now.basin(x, y);
    }

    int where(int table, int d) {
        if (!tab(table) || !in(d, 0, 9)) return -2;
        int[] t = now.tables.get(table);
        int best = -1;
        for (int y = 0; y < now.length; y++) {
            for (int x = 0; x < now.wide; x++) {
                if (Math.abs(x - t[0]) > d || Math.abs(y - t[1]) > d || !free(table, x, y)) continue;
                if (best < 0 || now.wet[y][x] < now.wet[best / 100][best % 100]) best = x + 100 * y;
            }
        }
        return best;
    }

    int move(int table, int x, int y) {
        if (!tab(table) || !now.cell(x, y)) return -2;
        if (!free(table, x, y)) return -5;
        int[] t = now.tables.get(table);
        int was = t[0] + 100 * t[1];
        t[0] = x;
        t[1] = y;
        return was;
    }

    int bow(int x, int y, int way) {
        int[] ahead = {y - now.jetY, now.jetX - x, now.jetY - y, x - now.jetX};
        int side = way % 2 == 0 ? Math.abs(x - now.jetX) : Math.abs(y - now.jetY);
        return ahead[way] > 0 && side <= ahead[way] / 2 ? 1 : 0;
    }

    int bows(int way) {
        if (none() || !in(way, 0, 3)) return -2;
        int n = 0;
        for (int y = 0; y < now.length; y++) for (int x = 0; x < now.wide; x++) if (!now.basin(x, y)) n += bow(x, y, way);
        return n;
    }

    int mist(int size, int wind) {
        if (!size(size) || !wind(wind)) return -2;
        java.util.Set<Integer> cells = new java.util.HashSet<>();
        for (int h = 1; h <= 60; h++) {
            Drop d = now.alone(size, h, wind);
            if (now.cell(now.x(d), now.y(d)) && !now.basin(now.x(d), now.y(d))) cells.add(now.x(d) + 100 * now.y(d));
        }
        return cells.size();
    }

    private boolean gustsFit(int seed, int wind, int n, int odds) {
        return !none() && in(seed, 0, 2000000000) && wind(wind) && in(n, 0, 400) && in(odds, 0, 100);
    }

    int gust(World w, int seed, int wind, int n, int odds) {
        java.math.BigInteger x = java.math.BigInteger.valueOf(seed);
        int astray = 0;
        for (int i = 0; i < n; i++) {
            x = x.multiply(java.math.BigInteger.valueOf(1103515245)).add(java.math.BigInteger.valueOf(12345)).mod(java.math.BigInteger.valueOf(2147483648L));
            int draw = x.divide(java.math.BigInteger.valueOf(65536)).mod(java.math.BigInteger.valueOf(100)).intValue();
            astray += w.beat(draw < odds ? wind / 10 * 10 + 9 : wind, true);
        }
        return astray;
    }

    int winds(int slot, int high, int what) {
        if (!in(slot, 0, 3) || none() || !in(high, 1, 60) || !in(what, 0, 1)) return -2;
        if (rows.get(slot) == null) return -6;
        List<Integer> fit = new ArrayList<>();
        for (int w = 0; w < 40; w++) {
            boolean all = true;
            for (long mark : rows.get(slot)) {
                boolean any = false;
                for (int s = 0; s < now.sizes.size(); s++) {
                    Drop d = now.alone(s, high, w);
                    any |= now.cell(now.x(d), now.y(d)) && !now.basin(now.x(d), now.y(d)) && now.x(d) + 100L * now.y(d) == mark;
                }
                all &= any;
            }
            if (all) fit.add(w);
        }
        return what == 0 ? fit.size() : fit.isEmpty() ? -1 : fit.get(0);
    }

    private int played(int slot, BiConsumer<World, int[]> each) {
        World w = now.copy();
        int[] sum = {0};
        for (long wind : rows.get(slot)) {
            w.beat((int) wind, true);
            each.accept(w, sum);
        }
        return sum[0];
    }

    int wear(int slot) {
        if (dayCode(slot) != 0) return dayCode(slot);
        return played(slot, (w, sum) -> {
            int n = w.highs.size();
            sum[0] += Math.abs(w.highs.get(n - 1) - (n > 1 ? w.highs.get(n - 2) : 0));
        });
    }

    int idle(int slot) {
        if (dayCode(slot) != 0) return dayCode(slot);
        return played(slot, (w, sum) -> sum[0] += w.last() == 0 ? 1 : 0);
    }

    int first(int slot, int table) {
        if (!tab(table)) return -2;
        if (dayCode(slot) != 0) return dayCode(slot);
        int[] beat = {0};
        int first = played(slot, (w, sum) -> {
            beat[0]++;
            if (sum[0] == 0 && w.wetOf(table) > now.wetOf(table)) sum[0] = beat[0];
        });
        return first == 0 ? -1 : first;
    }

    int sum(int x, int y, int wide, int length) {
        if (!now.cell(x, y) || !in(wide, 1, 30) || !in(length, 1, 30)) return -2;
        int n = 0;
        for (int j = y; j < y + length; j++) for (int i = x; i < x + wide; i++) if (now.cell(i, j)) n += now.wet[j][i];
        return n;
    }

    int wettest(int what) {
        if (none() || !in(what, 0, 1)) return -2;
        int best = -1;
        for (int y = 0; y < now.length; y++) {
            for (int x = 0; x < now.wide; x++) {
                int most = best < 0 ? 0 : now.wet[best / 100][best % 100];
                if (now.wet[y][x] > most) best = x + 100 * y;
            }
        }
        return best < 0 || what == 0 ? best : now.wet[best / 100][best % 100];
    }

    int best(int slot) {
        if (dayCode(slot) != 0) return dayCode(slot);
        int best = -1, most = 0;
        for (int l = 0; l <= 20; l++) {
            int lag = l;
            World w = dayBy(slot, 1, v -> v.lag = lag);
            int value = more(w, 0) - more(w, 4);
            if (best < 0 || value > most) {
                best = l;
                most = value;
            }
        }
        return best;
    }

    int stand(int slot, int d) {
        if (!in(d, 0, 3)) return -2;
        if (dayCode(slot) != 0) return dayCode(slot);
        int best = -1, least = 0;
        for (int y = 0; y < now.length; y++) {
            for (int x = 0; x < now.wide; x++) {
                if (Math.abs(x - now.jetX) > d || Math.abs(y - now.jetY) > d) continue;
                int atX = x, atY = y;
                World w = dayBy(slot, 1, v -> {
                    v.jetX = atX;
                    v.jetY = atY;
                });
                if (best < 0 || more(w, 4) < least) {
                    best = x + 100 * y;
                    least = more(w, 4);
                }
            }
        }
        return best;
    }

    int tall(int slot, int n) {
        if (!in(n, 0, 9999)) return -2;
        if (dayCode(slot) != 0) return dayCode(slot);
        int best = -1, most = -1;
        for (int h = 0; h <= 60; h++) {
            int high = h;
            World w = dayBy(slot, 1, v -> v.high = high);
            if (more(w, 1) + more(w, 2) <= n && more(w, 0) > most) {
                best = h;
                most = more(w, 0);
            }
        }
        return best;
    }

    int pays(int slot, int price) {
        if (!in(price, 0, 99)) return -2;
        if (dayCode(slot) != 0) return dayCode(slot);
        int best = -1, most = Integer.MIN_VALUE;
        for (int h = 0; h <= 60; h++) {
            int high = h;
            World w = dayBy(slot, 1, v -> v.high = high);
            int value = more(w, 0) - price * more(w, 1);
            if (value > most) {
                best = h;
                most = value;
            }
        }
        return best;
    }

    int dry(int slot) {
        if (dayCode(slot) != 0) return dayCode(slot);
        World w = dayBy(slot, 1, v -> { });
        return now.bits(t -> w.wetOf(t) == now.wetOf(t));
    }

    int way(int x, int y, int toX, int toY) {
        if (!now.cell(x, y) || !now.cell(toX, toY)) return -2;
        if (now.basin(x, y) || now.basin(toX, toY)) return -1;
        int[][] cost = new int[30][30];
        for (int[] line : cost) java.util.Arrays.fill(line, -1);
        java.util.PriorityQueue<int[]> open = new java.util.PriorityQueue<>((p, q) -> Integer.compare(p[0], q[0]));
        open.add(new int[] {now.wet[y][x], x, y});
        while (!open.isEmpty()) {
            int[] p = open.remove();
            if (!now.cell(p[1], p[2]) || now.basin(p[1], p[2]) || cost[p[2]][p[1]] >= 0) continue;
            cost[p[2]][p[1]] = p[0];
            int[][] beside = {{1, 0}, {-1, 0}, {0, 1}, {0, -1}};
            for (int[] b : beside) {
                int i = p[1] + b[0], j = p[2] + b[1];
                if (now.cell(i, j)) open.add(new int[] {p[0] + now.wet[j][i], i, j});
            }
        }
        return cost[toY][toX];
    }

    int often(int table, int seed, int k, int wind, int n, int odds) {
        if (!tab(table) || !in(k, 1, 20) || !gustsFit(seed, wind, n, odds)) return -2;
        int days = 0;
        for (int i = 0; i < k; i++) {
            World w = now.copy();
            gust(w, seed + i, wind, n, odds);
            if ((w.over() >> table & 1) == 1) days++;
        }
        return days;
    }

    int count(int what) {
        int has = 0;
        for (List<Long> row : rows) if (row != null) has++;
        int[] all = {now.wide, now.length, now.sizes.size(), now.tables.size(), now.rules.size(), now.lines, tape.length(), now.half, now.high, now.lag, now.climb, now.road, has};
        return in(what, 0, 12) ? all[what] : -1;
    }

    int keep(int k) {
        if (!in(k, 0, 2)) return -2;
        images[k] = now.copy();
        return 0;
    }

    int back(int k) {
        if (!in(k, 0, 2)) return -2;
        if (images[k] == null) return -6;
        now = images[k].copy();
        return 0;
    }

    int row(int slot, int width, int n) {
        if (!in(slot, 0, 3) || !in(width, 0, 3) || n > 60) return -2;
        if (n < 0) return -3;
        List<Long> row = new ArrayList<>();
        for (int i = 0; i < n; i++) row.add(0L);
        rows.set(slot, row);
        widths[slot] = width;
        return 0;
    }

    int write(int slot, int i, long v) {
        if (!in(slot, 0, 3)) return -2;
        if (rows.get(slot) == null) return -6;
        if (!in(i, 0, rows.get(slot).size() - 1)) return -7;
        int bits = 8 << widths[slot];
        rows.get(slot).set(i, bits == 64 ? v : v << 64 - bits >> 64 - bits);
        return 0;
    }

    int paste(int slot, int i, int to, int k, int n) {
        if (!in(slot, 0, 3) || !in(to, 0, 3)) return -2;
        if (rows.get(slot) == null || rows.get(to) == null) return -6;
        if (widths[slot] != widths[to]) return -8;
        if (i < 0 || k < 0 || n < 0 || (long) i + n > rows.get(slot).size() || (long) k + n > rows.get(to).size()) return -7;
        List<Long> were = new ArrayList<>(rows.get(slot).subList(i, i + n));
        for (int j = 0; j < n; j++) rows.get(to).set(k + j, were.get(j));
        return 0;
    }
}
