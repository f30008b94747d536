/** What the tests share: telling texts and rows, and counting answers that are not due. */
final class Told {
    private int wrong = 0;

    void due(String call, long got, long want) {
        if (got != want) {
            wrong++;
            System.out.println(call + " answered " + got + ", due is " + want);
        }
    }

    void close(String name) {
        System.out.println(name + ": " + (wrong == 0 ? "all answers are as due" : wrong + " answers are not as due"));
        if (wrong != 0) {
            System.exit(1);
        }
    }

    /** Puts a text behind the TAPE: feeds of 20 bytes, and what they have too much is cut. */
    static void tell(TableNine x, String text) {
        int before = x.count(6);
        for (int at = 0; at < text.length(); at += 20) {
            int[] fives = new int[5];
            for (int i = 0; i < 20; i++) {
                int sign = at + i < text.length() ? text.charAt(at + i) & 255 : 0;
                fives[i / 4] = fives[i / 4] << 8 | sign;
            }
            x.feed(fives[0], fives[1], fives[2], fives[3], fives[4]);
        }
        x.end(before + text.length());
    }

    static TableNine squareOf(String text) {
        TableNine x = new TableNine();
        tell(x, text);
        x.square();
        return x;
    }

    static void rowOf(TableNine x, int slot, int... numbers) {
        x.row(slot, 2, numbers.length);
        for (int i = 0; i < numbers.length; i++) {
            x.write(slot, i, numbers[i]);
        }
    }
}
