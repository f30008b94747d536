import java.util.function.ToIntFunction;

/** The bounds of the TAPE, of TOKENS, LINES and FAULTS: Terms I, promises 1 to 5 and 61. */
final class TextBoundsTest {
    private static final String FIVE = "square wide 5 long 5;";
    private static final int BLANKS = 0x20202020;

    private static final Told told = new Told();

    private static void due(String call, long got, long want) {
        told.due(call, got, want);
    }

    private static TableNine taken(String text, int lines) {
        TableNine x = new TableNine();
        Told.tell(x, text);
        due("square() of '" + text + "'", x.square(), lines);
        due("fault(0) of '" + text + "'", x.fault(0), 0);
        due("fault(1) of '" + text + "'", x.fault(1), -1);
        due("TAPE behind '" + text + "'", x.count(6), 0);
        return x;
    }

    private static void faulty(String text, int fault, int place) {
        TableNine x = Told.squareOf("square wide 8 long 6;road 2;");
        x.blow(13);
        Told.tell(x, text);
        due("square() of '" + text + "'", x.square(), -4);
        due("fault(0) of '" + text + "'", x.fault(0), fault);
        due("fault(1) of '" + text + "'", x.fault(1), place);
        due("SQUARE behind '" + text + "'", x.count(0), 8);
        due("road behind '" + text + "'", x.count(11), 2);
        due("BEATS behind '" + text + "'", x.jet(2), 1);
    }

    /**
     * A number of a LINE, where % stands: its bounds, numbers that would be in them if they were
     * cut to 32 or 64 bits, blanks of digits ahead, and that it can't be below 0.
     */
    private static void number(String text, int least, int most, ToIntFunction<TableNine> read) {
        int place = text.indexOf('%');
        int lines = text.split(";", -1).length - 1;
        for (int n : new int[] {least, least + 1, most - 1, most}) {
            due("'" + text + "' with " + n, read.applyAsInt(taken(text.replace("%", "" + n), lines)), n);
        }
        due("'" + text + "' with 000", read.applyAsInt(taken(text.replace("%", "0".repeat(30) + least), lines)), least);
        if (least > 0) {
            faulty(text.replace("%", "" + (least - 1)), 2, place);
        }
        faulty(text.replace("%", "-1"), 1, place);
        faulty(text.replace("%", "" + (most + 1)), 2, place);
        faulty(text.replace("%", "0" + (most + 1)), 2, place);
        faulty(text.replace("%", "" + (4294967296L + least)), 2, place);
        faulty(text.replace("%", "" + (2147483648L + most)), 2, place);
        faulty(text.replace("%", new java.math.BigInteger("18446744073709551616").add(java.math.BigInteger.valueOf(most)).toString()), 2, place);
        faulty(text.replace("%", "9".repeat(40)), 2, place);
        // without it the next TOKEN can't stand there, if it is not a number
        if (!Character.isDigit(text.charAt(place + 2 < text.length() ? place + 2 : place + 1))) {
            faulty(text.replace("%", ""), 1, text.charAt(place + 1) == ';' ? place : place + 1);
        }
        faulty(text.replace("%", "x"), 1, place);
        faulty(text.replace("%", ";"), 1, place);
    }

    private static void numbers() {
        String ten = "square wide 10 long 12;";
        number("square wide % long 5;", 5, 30, x -> x.count(0));
        number("square wide 5 long %;", 5, 30, x -> x.count(1));
        String seen = "size drag 0 share 1;";
        number(ten + seen + "jet at % 3 half 0 high 1;", 0, 9, x -> x.land(0, 1, 0) % 100);
        number(ten + seen + "jet at 3 % half 0 high 1;", 0, 11, x -> x.land(0, 1, 0) / 100);
        number(ten + "jet at 3 3 half % high 1;", 0, 9, x -> x.count(7));
        number(ten + "jet at 3 3 half 1 high %;", 0, 60, x -> x.count(8));
        number(ten + "size drag % share 1;", 0, 99, x -> x.nozzle(0, 0));
        // a LUMP goes up in one BEAT: so many drops are in the air
        number(ten + "size drag 1 share %;", 1, 9, x -> x.blow(0) + x.water(0));
        number(ten + "table at % 3 most 1;", 0, 9, x -> x.table(0, 0));
        number(ten + "table at 3 % most 1;", 0, 11, x -> x.table(0, 1));
        number(ten + "table at 3 3 most %;", 0, 999, x -> x.table(0, 2));
        number(ten + "road %;", 0, 11, x -> x.count(11));
        number(ten + "vane lag % climb 1;", 0, 20, x -> x.count(9));
        number(ten + "vane lag 1 climb %;", 1, 60, x -> x.count(10));
        number(ten + "rule wind % high 0;", 0, 9, x -> leastLetDown(x));
        number(ten + "jet at 0 0 half 0 high 60;rule wind 0 high %;", 0, 60, x -> x.lets(0));
        // the bounds of one square are not those of another
        number("square wide 30 long 5;table at % 0 most 1;", 0, 29, x -> x.table(0, 0));
        number("square wide 5 long 30;road %;", 0, 29, x -> x.count(11));
    }

    private static int leastLetDown(TableNine x) {
        for (int strength = 0; strength <= 9; strength++) {
            if (x.lets(strength) == 0) {
                return strength;
            }
        }
        return 99;
    }

    private static void winds() {
        String rule = FIVE + "rule wind 4 high 9;rule wind %;";
        int place = rule.indexOf('%');
        for (int wind = 0; wind <= 10; wind++) {
            String text = rule.replace("%", wind + " high 7");
            if (wind > 4 && wind < 10) {
                TableNine x = taken(text, 3);
                due("lets ahead of wind " + wind, x.lets(wind - 1), 9);
                due("lets at wind " + wind, x.lets(wind), 7);
            } else {
                faulty(text, 2, place);
            }
        }
        faulty(FIVE + "rule wind 0 high 9;rule wind 0 high 9;", 2, 50);
        faulty(FIVE + "rule wind 9 high 9;rule wind 9 high 9;", 2, 50);
        faulty(FIVE + "rule wind 8 high 9;rule wind 9 high 9;rule wind 8 high 1;", 2, 69);
        taken(FIVE + "rule wind 8 high 9;rule wind 9 high 9;", 3);
        // by a RULE ahead of the jet and behind it
        taken(FIVE + "rule wind 8 high 9;jet at 0 0 half 0 high 0;rule wind 9 high 9;", 4);
        // another SQUARE's RULES have nothing to do with these
        TableNine x = taken(FIVE + "rule wind 9 high 9;", 2);
        Told.tell(x, FIVE + "rule wind 0 high 8;");
        due("square() of another's RULES", x.square(), 2);
        due("lets(9) of another's RULES", x.lets(9), 8);
    }

    private static void onceEach() {
        String[] lines = {"jet at 0 0 half 0 high 0;", "road 0;", "vane lag 0 climb 60;"};
        for (String line : lines) {
            taken(FIVE + line, 2);
            faulty(FIVE + line + line, 2, 21 + line.length());
            faulty(FIVE + line + "size drag 1 share 1;" + line, 2, 41 + line.length());
            // at it: what is wrong behind comes too late
            faulty(FIVE + line + line.substring(0, 4), 2, 21 + line.length());
            faulty(FIVE + line + line.substring(0, 4) + " #", 2, 21 + line.length());
        }
        taken(FIVE + lines[0] + lines[1] + lines[2], 4);
        taken(FIVE + lines[2] + lines[1] + lines[0], 4);
        // what was told of another SQUARE, or with a FAULT, is not told already
        TableNine x = taken(FIVE + lines[0] + lines[1] + lines[2], 4);
        Told.tell(x, FIVE + lines[0] + lines[1] + lines[2]);
        due("square() again", x.square(), 4);
        Told.tell(x, FIVE + lines[0] + lines[1] + lines[2] + "x");
        due("square() with a FAULT", x.square(), -4);
        Told.tell(x, FIVE + lines[0] + lines[1] + lines[2]);
        due("square() behind a FAULT", x.square(), 4);
    }

    private static void sizesTablesRules() {
        StringBuilder sizes = new StringBuilder(FIVE);
        for (int i = 0; i < 5; i++) {
            sizes.append("size drag ").append(i + 10).append(" share 1;");
        }
        TableNine x = taken(sizes.toString(), 6);
        due("SIZES", x.count(2), 5);
        for (int i = 0; i < 5; i++) {
            due("drag of SIZE " + i, x.nozzle(i, 0), i + 10);
        }
        due("SIZE 5", x.nozzle(5, 0), -2);
        faulty(sizes + "size", 3, sizes.length());
        faulty(sizes + "size drag 1 share 1;", 3, sizes.length());
        StringBuilder tables = new StringBuilder(FIVE);
        for (int i = 0; i < 8; i++) {
            tables.append("table at 1 2 most ").append(i).append(";");
        }
        x = taken(tables.toString(), 9);
        due("TABLES", x.count(3), 8);
        for (int i = 0; i < 8; i++) {
            due("most of TABLE " + i, x.table(i, 2), i);
        }
        due("TABLE 8", x.table(8, 2), -2);
        faulty(tables + "table", 3, tables.length());
        faulty(tables + "table at 1 2 most 9;", 3, tables.length());
        StringBuilder rules = new StringBuilder(FIVE);
        for (int i = 0; i < 6; i++) {
            rules.append("rule wind ").append(i).append(" high ").append(20 - i).append(";");
        }
        x = taken(rules.toString(), 7);
        due("RULES", x.count(4), 6);
        for (int i = 0; i < 10; i++) {
            due("lets " + i, x.lets(i), 20 - Math.min(i, 5));
        }
        faulty(rules + "rule", 3, rules.length());
        faulty(rules + "rule wind 9 high 1;", 3, rules.length());
        everySort(sizes, tables, rules);
    }

    /** All that a SQUARE can have; a SIZE, TABLE, RULE too many is told of its own sort alone. */
    private static void everySort(StringBuilder sizes, StringBuilder tables, StringBuilder rules) {
        String all = sizes + tables.substring(21) + rules.substring(21) + "road 1;";
        TableNine x = taken(all, 21);
        due("LINES of all", x.count(5), 21);
        due("SIZES of all", x.count(2), 5);
        due("TABLES of all", x.count(3), 8);
        due("RULES of all", x.count(4), 6);
        // a word that can't stand there is FAULT 1, the least of one place
        faulty(all + "vane size", 1, all.length() + 5);
        faulty(all + "jet table", 1, all.length() + 4);
        faulty(all + "jet at rule", 1, all.length() + 7);
        faulty(all + "jet road", 1, all.length() + 4);
        faulty("size drag 1 share 1;", 1, 0);
        // the 6th counts only if it is one: "sizes" is another word
        faulty(all + "sizes", 1, all.length());
        // those of a text with a FAULT, or of the SQUARE ahead, don't count
        Told.tell(x, all + "x");
        due("square() with a FAULT", x.square(), -4);
        Told.tell(x, all);
        due("square() in place of another", x.square(), 21);
        Told.tell(x, FIVE);
        due("square() of one LINE", x.square(), 1);
        due("SIZES of one LINE", x.count(2), 0);
        due("TABLES of one LINE", x.count(3), 0);
        due("RULES of one LINE", x.count(4), 0);
        due("lets(9) of one LINE", x.lets(9), 30);
    }

    private static void defaults() {
        int[][] squares = {{5, 5, 202}, {30, 30, 1515}, {6, 7, 303}, {7, 6, 303}, {5, 30, 1502}, {30, 5, 215}};
        for (int[] s : squares) {
            TableNine x = taken("square wide " + s[0] + " long " + s[1] + ";size drag 0 share 1;", 2);
            due("the jet by " + s[0] + " " + s[1], x.land(0, 1, 0), s[2]);
            due("half", x.count(7), 1);
            due("high", x.count(8), 30);
            due("lag", x.count(9), 0);
            due("climb", x.count(10), 60);
            due("road", x.count(11), -1);
        }
        // what another SQUARE told is not taken over
        TableNine x = taken("square wide 9 long 9;jet at 0 0 half 9 high 60;road 0;vane lag 20 climb 1;", 4);
        Told.tell(x, "square wide 9 long 9;");
        due("square()", x.square(), 1);
        int[] counts = {9, 9, 0, 0, 0, 1, 0, 1, 30, 0, 60, -1, 0};
        for (int what = 0; what < counts.length; what++) {
            due("count(" + what + ")", x.count(what), counts[what]);
        }
    }

    /** Every byte between a word and a number: only 32 and 10 are blanks. */
    private static void tokens() {
        for (int b = 0; b < 256; b++) {
            String text = "square wide" + (char) b + "5 long 5;";
            if (b == 32 || b == 10 || b >= '0' && b <= '2') {
                TableNine x = taken(text, 1);
                due("wide by byte " + b, x.count(0), b == '1' ? 15 : b == '2' ? 25 : 5);
            } else if (b >= 'a' && b <= 'z') {
                faulty(text, 1, 7);
            } else {
                faulty(text, b >= '3' && b <= '9' ? 2 : 1, 11);
            }
            String behind = FIVE + (char) b;
            if (b == 32 || b == 10) {
                taken(behind, 1);
            } else {
                faulty(behind, 1, 21);
            }
            String ahead = (char) b + FIVE;
            if (b == 32 || b == 10) {
                taken(ahead, 1);
            } else {
                faulty(ahead, 1, 0);
            }
        }
        // the longest: words and numbers go on till another sort of byte comes
        taken("square wide5long5;", 1);
        faulty("squarewide5long5;", 1, 0);
        faulty("square wide 5long5x;", 1, 18);
        faulty("square wide 1 0 long 5;", 2, 12);
        faulty("square wide 10 0 long 5;", 1, 15);
        faulty("squ are wide 5 long 5;", 1, 0);
        faulty("square wide 5 lo ng 5;", 1, 14);
        taken(FIVE + "road\n\n  1 \n;", 2);
        taken("\n\n" + FIVE.replace(' ', '\n'), 1);
        taken(FIVE + "jet at 1 2half 3high 4;table at 1 2most 3;", 3);
    }

    private static void lines() {
        taken("", 0);
        taken(" ", 0);
        taken("\n \n", 0);
        taken(FIVE, 1);
        taken(FIVE + "road 0;", 2);
        // square is the first LINE and no other
        faulty(FIVE + FIVE, 1, 21);
        faulty(FIVE + "road 1;square", 1, 28);
        for (String word : new String[] {"jet", "size", "table", "road", "vane", "rule", "wide", "at", "squares", "squar", "x"}) {
            faulty(word + " wide 5 long 5;", 1, 0);
            faulty("  " + word, 1, 2);
        }
        for (String word : new String[] {"wide", "long", "at", "half", "high", "drag", "share", "most", "lag", "climb", "wind", "jets", "je", "roads", "z"}) {
            faulty(FIVE + word, 1, 21);
        }
        everyLetter();
        faulty(";", 1, 0);
        faulty("5", 1, 0);
        faulty(";" + FIVE, 1, 0);
        faulty(FIVE + ";", 1, 21);
        faulty(FIVE + "5", 1, 21);
        faulty(FIVE + "road 1;;", 1, 28);
        faulty("square wide 5 long 5 road 1;", 1, 21);
        faulty("square wide 5 long 5 5;", 1, 21);
    }

    /** A word with another letter, one less, one more is another word, which can't stand there. */
    private static void everyLetter() {
        String text = FIVE + "jet at 1 2 half 3 high 4;size drag 1 share 2;table at 1 2 most 3;road 1;vane lag 1 climb 2;rule wind 1 high 2;";
        taken(text, 7);
        int start = 0;
        for (int at = 0; at < text.length(); at++) {
            if (!Character.isLetter(text.charAt(at))) {
                start = at + 1;
                continue;
            }
            String ahead = text.substring(0, at);
            String behind = text.substring(at + 1);
            char other = text.charAt(at) == 'q' ? 'x' : 'q';
            faulty(ahead + other + behind, 1, start);
            faulty(ahead + text.charAt(at) + other + behind, 1, start);
            faulty(ahead + Character.toUpperCase(text.charAt(at)) + behind, 1, at == start ? at : start);
            faulty(ahead + behind, 1, start);
        }
    }

    /** A text that ends anywhere but behind a LINE has its FAULT at the end, blanks or not. */
    private static void ends() {
        String[] lines = {"jet at 1 2 half 3 high 4;", "size drag 1 share 2;", "table at 1 2 most 3;", "road 1;", "vane lag 1 climb 2;", "rule wind 1 high 2;"};
        for (String line : lines) {
            String[] tokens = line.replace(";", " ;").split(" ");
            StringBuilder text = new StringBuilder(FIVE);
            for (int i = 0; i < tokens.length - 1; i++) {
                text.append(tokens[i]);
                faulty(text.toString(), 1, text.length());
                faulty(text + " \n", 1, text.length() + 2);
                // each TOKEN in its place: another one can't stand there
                faulty(text + " !", 1, text.length() + 1);
                faulty(text + " " + (i + 1 < tokens.length - 1 ? ";" : "1"), 1, text.length() + 1);
                text.append(' ');
            }
            taken(text + ";", 2);
        }
        faulty("s", 1, 0);
        faulty("square", 1, 6);
        faulty("square ", 1, 7);
        faulty("square wide", 1, 11);
        faulty("square wide 5", 1, 13);
        faulty("square wide 5 long", 1, 18);
        faulty("square wide 5 long 5", 1, 20);
        faulty("square wide 5 long 5\n", 1, 21);
    }

    /** The first by its place, of whatever sort. */
    private static void firstFault() {
        faulty("square wide 4 long 4;", 2, 12);
        faulty("square wide 5 long 4;!", 2, 19);
        faulty("square wide 4 !", 2, 12);
        faulty("! square wide 4", 1, 0);
        faulty("square ! wide 4", 1, 7);
        faulty(FIVE + "road 9;jet at 9 9", 2, 26);
        faulty(FIVE + "road x;road 9;", 1, 26);
        faulty(FIVE + "road 1;road x;", 2, 28);
        faulty(FIVE + "size drag 1 share 1;".repeat(5) + "road 5;size drag 1 share 1;", 2, 126);
        faulty(FIVE + "size drag 1 share 1;".repeat(6) + "road 5;", 3, 121);
    }

    private static void feeds() {
        TableNine x = new TableNine();
        due("a new TAPE", x.count(6), 0);
        due("end(0) of a new TAPE", x.end(0), 0);
        due("end(1) of a new TAPE", x.end(1), -1);
        for (int i = 1; i <= 80; i++) {
            due("feed " + i, x.feed(BLANKS, BLANKS, BLANKS, BLANKS, BLANKS), 20 * i);
        }
        for (int i = 0; i < 3; i++) {
            due("feed of a full TAPE", x.feed(0, 0, 0, 0, 0), -1);
            due("a full TAPE", x.count(6), 1600);
        }
        due("end(1601)", x.end(1601), -1);
        due("end(1600)", x.end(1600), 1600);
        for (int n = 1599; n > 1580; n--) {
            due("end(" + n + ")", x.end(n), n);
            due("feed behind " + n, x.feed(0, 0, 0, 0, 0), -1);
            due("TAPE of " + n, x.count(6), n);
        }
        due("end(1580)", x.end(1580), 1580);
        due("feed behind 1580", x.feed(BLANKS, BLANKS, BLANKS, BLANKS, BLANKS), 1600);
        due("end(-1)", x.end(-1), -1);
        due("end of the least", x.end(Integer.MIN_VALUE), -1);
        due("end of the most", x.end(Integer.MAX_VALUE), -1);
        due("none came", x.square(), 0);
        due("the TAPE is empty then", x.count(6), 0);
        due("end(1) of it", x.end(1), -1);
        due("feed of it", x.feed(BLANKS, BLANKS, BLANKS, BLANKS, BLANKS), 20);
    }

    /** Each byte of a feed in its place: a byte that is no TOKEN is the FAULT's place. */
    private static void bytesOfFeed() {
        for (int at = 0; at < 20; at++) {
            for (int sign : new int[] {0, 127, 128, 255}) {
                int[] fives = {BLANKS, BLANKS, BLANKS, BLANKS, BLANKS};
                int shift = 24 - 8 * (at % 4);
                fives[at / 4] = fives[at / 4] & ~(255 << shift) | sign << shift;
                TableNine x = new TableNine();
                x.feed(BLANKS, BLANKS, BLANKS, BLANKS, BLANKS);
                x.feed(fives[0], fives[1], fives[2], fives[3], fives[4]);
                due("square() of byte " + at, x.square(), -4);
                due("place of byte " + at, x.fault(1), 20 + at);
                x.feed(fives[0], fives[1], fives[2], fives[3], fives[4]);
                due("end(at)", x.end(at), at);
                due("square() of what is ahead of byte " + at, x.square(), 0);
            }
        }
    }

    /** The last byte that a TAPE can have is read, too. */
    private static void fullTape() {
        String blanks = " ".repeat(1600);
        String full = FIVE.substring(0, 20) + blanks.substring(0, 1579) + ";";
        due("length of the text", full.length(), 1600);
        taken(full, 1);
        faulty(FIVE.substring(0, 20) + blanks.substring(0, 1580), 1, 1600);
        faulty(FIVE + blanks.substring(0, 1578) + "x", 1, 1599);
        faulty(FIVE + "road " + "0".repeat(1573) + "5", 2, 26);
        taken(FIVE + "road " + "0".repeat(1572) + "4;", 2);
        faulty("a".repeat(1600), 1, 0);
        faulty("square" + blanks.substring(0, 1590) + "wide", 1, 1600);
        // more than fits is not taken at all, so the end of the text is not there
        TableNine x = new TableNine();
        Told.tell(x, FIVE + blanks.substring(0, 1559));
        due("feed of 1600", x.feed(BLANKS, BLANKS, BLANKS, BLANKS, 0x2020203b), 1600);
        due("feed of 1620", x.feed(BLANKS, BLANKS, BLANKS, BLANKS, BLANKS), -1);
        due("square() of 1600", x.square(), -4);
        due("place of 1600", x.fault(1), 1599);
    }

    private static void squaresAndFaults() {
        TableNine x = new TableNine();
        due("fault(0) ahead of any", x.fault(0), 0);
        due("fault(1) ahead of any", x.fault(1), -1);
        due("fault(2) ahead of any", x.fault(2), -1);
        Told.tell(x, "square wide 4");
        due("fault(0) ahead of square()", x.fault(0), 0);
        due("square() with a FAULT", x.square(), -4);
        due("no SQUARE", x.count(0), 0);
        due("blow(0) of none", x.blow(0), -2);
        due("the TAPE is empty then", x.count(6), 0);
        due("fault(0)", x.fault(0), 2);
        due("fault(1)", x.fault(1), 12);
        due("fault(2)", x.fault(2), -1);
        due("fault(-1)", x.fault(-1), -1);
        x.feed(0, 0, 0, 0, 0);
        x.end(21);
        x.keep(0);
        x.back(0);
        due("fault(0) of the latest", x.fault(0), 2);
        due("fault(1) of the latest", x.fault(1), 12);
        x.end(0);
        due("square() of nothing", x.square(), 0);
        due("fault(0) of none", x.fault(0), 0);
        due("fault(1) of none", x.fault(1), -1);
        Told.tell(x, FIVE + "x");
        due("square() with FAULT 1", x.square(), -4);
        due("fault(0) at 21", x.fault(0), 1);
        due("fault(1) at 21", x.fault(1), 21);
        Told.tell(x, FIVE);
        due("square() behind a FAULT", x.square(), 1);
        due("fault(0) behind it", x.fault(0), 0);
        due("fault(1) behind it", x.fault(1), -1);
    }

    private static TableNine lived() {
        TableNine x = Told.squareOf("square wide 9 long 7;jet at 4 3 half 0 high 3;size drag 50 share 2;table at 6 3 most 0;road 3;");
        x.keep(1);
        x.blows(11, 9);
        x.blows(19, 9);
        x.blows(0, 9);
        Told.rowOf(x, 2, 11, 12, 13);
        return x;
    }

    /** Behind a FAULT all stays, but for the FAULT and the TAPE. */
    private static void allStays() {
        for (String text : new String[] {"x", FIVE + "table at 1 1 most 1;size drag 1 share 1;!", "square wide 9 long 31;"}) {
            TableNine x = lived();
            Told.tell(x, text);
            due("square() of '" + text + "'", x.square(), -4);
            due("SLOTS", x.count(12), 1);
            String faulted = State.of(x);
            String lived = State.of(lived());
            due("all stays behind '" + text + "'", faulted.substring(faulted.indexOf("count")).equals(lived.substring(lived.indexOf("count"))) ? 1 : 0, 1);
        }
    }

    /** A new SQUARE: there was no BEAT. SLOTS and IMAGES are as they were. */
    private static void newSquare() {
        TableNine x = lived();
        for (int what = 0; what <= 5; what++) {
            due("water(" + what + ") ahead", x.water(what) > 0 ? 1 : 0, 1);
        }
        due("WET ahead", x.table(0, 3) > 0 ? 1 : 0, 1);
        Told.tell(x, "square wide 9 long 7;jet at 4 3 half 0 high 3;size drag 50 share 2;table at 6 3 most 0;road 3;vane lag 1 climb 60;");
        due("square()", x.square(), 6);
        for (int what = 0; what <= 5; what++) {
            due("water(" + what + ")", x.water(what), 0);
        }
        due("jet(0)", x.jet(0), 0);
        due("jet(1)", x.jet(1), 0);
        due("jet(2)", x.jet(2), 0);
        due("jet(3)", x.jet(3), -1);
        due("over()", x.over(), 0);
        due("ice()", x.ice(), 0);
        due("wettest(0)", x.wettest(0), -1);
        due("sum of all", x.sum(0, 0, 30, 30), 0);
        due("coming(19)", x.coming(19), 0);
        due("count(12)", x.count(12), 1);
        due("the row of SLOT 2", x.thought(2, 0), 9);
        // the WIND of ahead is not SEEN any more
        due("blow(15)", x.blow(15), 0);
        due("WIND 0 is SEEN", x.jet(3), 0);
        due("back(1)", x.back(1), 0);
        due("LINES of IMAGE 1", x.count(5), 5);
        due("BEATS of IMAGE 1", x.jet(2), 0);
    }

    public static void main(String[] args) {
        numbers();
        winds();
        onceEach();
        sizesTablesRules();
        defaults();
        tokens();
        lines();
        ends();
        firstFault();
        feeds();
        bytesOfFeed();
        fullTape();
        squaresAndFaults();
        allStays();
        newSquare();
        told.close("TextBoundsTest");
    }
}
