import java.lang.reflect.Method;
import java.util.ArrayList;
import java.util.Arrays;
import java.util.HashMap;
import java.util.List;
import java.util.Map;
import java.util.Random;

/** Draws squares and calls, from seeds that stay, and holds every answer to the Model. */
final class ModelTest {
    /**
     * Name, then least and most of each argument. X, Y, T, Z are the last of the square, table and size
     * that there is, W a wind, most often to the lee, S a slot, most often one with a row of winds, R some
     * drops more than the road has. A few draws go beyond them.
     */
    private static final String[] CALLS = {
        "end 0 1600", "square", "fault 0 1", "pace 0 60", "blow 0 39", "blows 0 39 0 400", "day 0 S",
        "wet 0 X 0 Y", "table 0 T 0 3", "over", "water 0 5", "jet 0 3", "lets 0 9", "land 0 Z 1 60 0 W",
        "drift 0 Z 1 60 0 39", "stray 0 60 0 W", "low 0 W 0 40", "bound 0 T 0 W", "reach 0 T 0 3",
        "already 0 T 0 W", "coming 0 W", "worst 0 T", "thought 0 S 0 5", "lagged 0 S 0 20 0 5", "worth 0 S",
        "most 0 S 0 T", "rule 0 S", "half 0 S 0 400", "nozzle 0 Z 0 99", "fine 0 Z 1 60 0 39", "ice",
        "shut 0 S 1 R", "marks 0 X 0 Y 1 60", "span 0 X 0 Y 1 60 0 3", "where 0 T 0 9", "move 0 T 0 X 0 Y",
        "bow 0 X 0 Y 0 3", "bows 0 3", "mist 0 Z 0 W", "gusts 0 2000000000 0 39 0 400 0 100",
        "winds 0 S 1 60 0 1", "two 0 S 0 20 0 5", "climbs 0 S 1 60 0 5", "wear 0 S", "idle 0 S", "first 0 S 0 T",
        "last 0 T 0 W", "sum 0 X 0 Y 1 30 1 30", "wettest 0 1", "small 1 11 0 60 0 W", "best 0 S",
        "stand 0 S 0 3", "tall 0 S 0 500", "pays 0 S 0 99", "dry 0 S", "week 0 S 1 10 0 5", "way 0 X 0 Y 0 X 0 Y",
        "often 0 T 0 2000000000 1 20 0 W 0 60 0 100", "count 0 12", "keep 0 2", "back 0 2", "row 0 3 0 3 0 60",
        "write 0 S 0 20 0 39", "paste 0 S 0 10 0 S 0 10 0 10",
    };
    /** Calls that would end most runs in an empty square, in empty rows or in floods. */
    private static final List<String> RARE = Arrays.asList("square", "end", "back", "row", "blows", "gusts", "move", "nozzle");

    private final Random random;
    private final Told told;
    private final Map<String, Method> methods = new HashMap<>();
    private TableNine mine;
    private Model model;
    private final List<String> history = new ArrayList<>();
    private boolean good = true;
    /** The way of most winds, where most tables stand: so drops come on them. */
    private int lee;

    private ModelTest(long seed, Told told) {
        random = new Random(seed);
        this.told = told;
        for (Method m : TableNine.class.getMethods()) {
            methods.put(m.getName(), m);
        }
    }

    private int draw(int least, int most) {
        return least + (int) Math.floorMod(random.nextLong(), (long) most - least + 1);
    }

    private int ask(String name, int... args) throws ReflectiveOperationException {
        history.add(name + Arrays.toString(args));
        Object[] boxed = new Object[args.length];
        for (int i = 0; i < args.length; i++) {
            boxed[i] = name.equals("write") && i == 2 ? (Object) (long) args[i] : (Object) args[i];
        }
        int got = (Integer) methods.get(name).invoke(mine, boxed);
        int want = model.call(name, args);
        told.due(name + Arrays.toString(args), got, want);
        if (got != want) {
            good = false;
        }
        return got;
    }

    private int wayOfWind() {
        return random.nextInt(4) > 0 ? lee : draw(0, 3);
    }

    /** Where some wind blows drops of a drag to: tables there are met. */
    private int[] blownTo(int x, int y, int drag) {
        int by = drag * draw(1, 6) * 2 * Model.pace(draw(1, 60)) / 100;
        switch (wayOfWind()) {
            case 0: return new int[] {x, y - by};
            case 1: return new int[] {x + by, y};
            case 2: return new int[] {x, y + by};
            default: return new int[] {x - by, y};
        }
    }

    /** Small squares are drawn most, as on great ones few drops and calls meet. */
    private int side() {
        return random.nextInt(6) == 0 ? draw(14, 30) : draw(5, 13);
    }

    private String text() {
        int wide = side();
        int length = side();
        int jetX = wide / 2;
        int jetY = length / 2;
        List<String> lines = new ArrayList<>();
        if (random.nextInt(5) > 0) {
            jetX = draw(0, wide - 1);
            jetY = draw(0, length - 1);
            lines.add("jet at " + jetX + " " + jetY + " half " + draw(0, random.nextInt(8) == 0 ? 9 : 1) + " high " + draw(0, 60));
        }
        int[] drags = new int[draw(random.nextInt(9) == 0 ? 0 : 1, 4)];
        for (int i = 0; i < drags.length; i++) {
            drags[i] = draw(0, random.nextInt(5) == 0 ? 99 : 9);
            lines.add("size drag " + drags[i] + " share " + draw(1, 9));
        }
        for (int i = draw(random.nextInt(9) == 0 ? 0 : 1, 5); i > 0; i--) {
            int[] cell = {draw(0, wide - 1), draw(0, length - 1)};
            if (random.nextInt(5) > 0 && drags.length > 0) {
                cell = blownTo(jetX, jetY, drags[random.nextInt(drags.length)]);
            }
            int x = Math.max(0, Math.min(wide - 1, cell[0]));
            int y = Math.max(0, Math.min(length - 1, cell[1]));
            lines.add("table at " + x + " " + y + " most " + draw(0, random.nextInt(3) == 0 ? 999 : 20));
        }
        if (random.nextInt(3) > 0) {
            int road = random.nextBoolean() ? draw(0, length - 1) : jetY + draw(-3, 3);
            lines.add("road " + Math.max(0, Math.min(length - 1, road)));
        }
        if (random.nextInt(4) > 0) {
            lines.add("vane lag " + draw(0, random.nextBoolean() ? 3 : 20) + " climb " + draw(1, random.nextBoolean() ? 8 : 60));
        }
        int wind = draw(0, 4);
        StringBuilder rules = new StringBuilder();
        for (int i = draw(0, 4); i > 0 && wind < 10; i--) {
            rules.append("rule wind ").append(wind).append(" high ").append(random.nextInt(4) == 0 ? 0 : draw(0, 60)).append(";");
            wind += draw(1, 4);
        }
        java.util.Collections.shuffle(lines, random);
        StringBuilder all = new StringBuilder("square wide " + wide + " long " + length + ";");
        for (String line : lines) {
            all.append(random.nextBoolean() ? " " : "\n").append(line).append(random.nextBoolean() ? " ;" : ";");
        }
        return all.append(rules).toString();
    }

    /** Texts that are broken somewhere, so that FAULTS and their places are met. */
    private String broken(String text) {
        StringBuilder b = new StringBuilder(text);
        String[] bits = {" ", ";", "9", "x", "jet", " size drag 1 share 1;", "table at 0 0 most 0;", "road 0;", "vane lag 0 climb 1;", "rule wind 0 high 0;", "Q", "\t", "\u00e9", "99", "square", "\n"};
        for (int i = draw(1, 3); i > 0; i--) {
            int at = draw(0, b.length());
            if (random.nextInt(3) == 0 && at < b.length()) {
                b.deleteCharAt(at);
            } else {
                b.insert(at, bits[random.nextInt(bits.length)]);
            }
        }
        if (random.nextInt(4) == 0) {
            b.setLength(draw(0, b.length()));
        }
        if (random.nextInt(4) == 0) {
            String many = bits[5 + random.nextInt(2)];
            for (int i = 0; i < 10; i++) b.append(many);
        }
        return b.toString();
    }

    private void tell(String text) throws ReflectiveOperationException {
        int before = ask("count", 6);
        for (int at = 0; at < text.length(); at += 20) {
            int[] fives = new int[5];
            for (int i = 0; i < 20; i++) {
                fives[i / 4] = fives[i / 4] << 8 | (at + i < text.length() ? text.charAt(at + i) & 255 : 32);
            }
            ask("feed", fives);
        }
        ask("end", before + text.length());
    }

    private int argument(int least, int most) {
        int kind = random.nextInt(60);
        if (kind == 0) {
            return least - 1;
        }
        if (kind == 1) {
            return most + 1;
        }
        if (kind == 2) {
            int[] far = {Integer.MIN_VALUE, Integer.MAX_VALUE, -1000, 100000};
            return far[random.nextInt(far.length)];
        }
        return kind < 6 ? (random.nextBoolean() ? least : most) : draw(least, most);
    }

    private void fillRow() throws ReflectiveOperationException {
        int slot = draw(0, 2);
        int n = draw(0, 40);
        ask("row", slot, draw(0, 3), n);
        int steady = wayOfWind() * 10;
        int strong = draw(2, 9);
        for (int i = 0; i < n; i++) {
            if (random.nextInt(8) == 0) {
                steady = wayOfWind() * 10;
                strong = draw(2, 9);
            }
            ask("write", slot, i, random.nextInt(300) == 0 ? draw(-300, 300) : random.nextInt(9) == 0 ? draw(0, 39) : steady + draw(0, strong));
        }
    }

    private int most(String told) {
        switch (told) {
            case "X": return Math.max(1, model.now.wide) - 1;
            case "Y": return Math.max(1, model.now.length) - 1;
            case "T": return Math.max(1, model.now.tables.size()) - 1;
            case "Z": return Math.max(1, model.now.sizes.size()) - 1;
            case "R": return (model.now.road < 0 ? 0 : model.now.ice()) + 30;
            case "S": return 3;
            case "W": return 39;
            default: return Integer.parseInt(told);
        }
    }

    private int slot() {
        int slot = draw(0, 2);
        for (int i = 0; i < 3 && model.rows.get(slot) == null; i++) {
            slot = (slot + 1) % 3;
        }
        return slot;
    }

    private int windToLee() {
        return wayOfWind() * 10 + draw(0, 9);
    }

    /** Marks that one wind makes, now and then with a strange one, and which winds can have made them. */
    private void askMarks() throws ReflectiveOperationException {
        int slot = 3;
        int high = draw(1, 60);
        int wind = windToLee();
        int n = draw(0, 3);
        ask("row", slot, draw(1, 3), n);
        for (int i = 0; i < n; i++) {
            boolean strange = random.nextInt(9) == 0;
            int mark = ask("land", draw(0, most("Z")), high, wind);
            ask("write", slot, i, strange ? draw(0, most("X")) + 100 * draw(0, most("Y")) : mark);
        }
        ask("winds", slot, high, 0);
        ask("winds", slot, high, 1);
    }

    private int aimed(int least, String told) {
        if (random.nextInt(12) > 0 && told.equals("S")) {
            return slot();
        }
        return random.nextInt(12) > 0 && told.equals("W") ? windToLee() : argument(least, most(told));
    }

    private void drawCall() throws ReflectiveOperationException {
        String[] call = CALLS[random.nextInt(CALLS.length)].split(" ");
        if (RARE.contains(call[0]) && random.nextInt(6) > 0) {
            return;
        }
        int[] args = new int[(call.length - 1) / 2];
        for (int i = 0; i < args.length; i++) {
            args[i] = aimed(Integer.parseInt(call[2 * i + 1]), call[2 * i + 2]);
        }
        if (call[0].equals("write") && random.nextInt(30) > 0) {
            args[2] = draw(0, 39);
        }
        ask(call[0], args);
    }

    private void run() throws ReflectiveOperationException {
        mine = new TableNine();
        model = new Model();
        lee = draw(0, 3);
        for (int i = random.nextInt(6); i > 0; i--) {
            tell(broken(text()));
            ask("square");
            ask("fault", 0);
            ask("fault", 1);
        }
        tell(text());
        ask("square");
        fillRow();
        fillRow();
        while (history.size() < 500 && good) {
            int kind = random.nextInt(40);
            if (kind < 4) {
                ask("blow", wayOfWind() * 10 + draw(0, 6));
            } else if (kind == 4) {
                ask("blows", windToLee(), draw(0, 30));
            } else if (kind == 5 && random.nextInt(4) == 0 && history.size() < 400) {
                fillRow();
            } else if (kind == 6 && random.nextInt(4) == 0) {
                askMarks();
            } else if (random.nextInt(model.now.lines == 0 ? 10 : 240) == 0 && history.size() < 440) {
                tell(text());
                ask("square");
            } else {
                drawCall();
            }
        }
        if (!good) {
            for (String call : history) System.out.println("  " + call);
        }
    }

    public static void main(String[] args) throws ReflectiveOperationException {
        long from = args.length > 0 ? Long.parseLong(args[0]) : 0;
        long to = args.length > 1 ? Long.parseLong(args[1]) : 150;
        Told told = new Told();
        for (long seed = from; seed < to; seed++) {
            ModelTest test = new ModelTest(seed, told);
            test.run();
            if (!test.good) {
                System.out.println("in the run of seed " + seed);
                break;
            }
        }
        told.close("ModelTest");
    }
}
