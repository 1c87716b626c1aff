/** What the tests share: feeding a text, and counting wrong answers. */
final class Checks {
    private int wrong = 0;
    private int made = 0;
    private String part = "";

    void part(String name) {
        part = name;
    }

    void due(String call, long got, long want) {
        made++;
        if (got != want) {
            wrong++;
            System.out.println(part + ": " + call + " answered " + got + ", due is " + want);
        }
    }

    void due(String call, boolean got, boolean want) {
        due(call, got ? 1 : 0, want ? 1 : 0);
    }

    /** 1 if of() throws a NoSuchElementException, 0 if it answers. */
    static int ofThrows(MileLists x, int list, int what) {
        try {
            x.of(list, what);
            return 0;
        } catch (java.util.NoSuchElementException e) {
            return 1;
        }
    }

    void finish() {
        System.out.println(made + " answers, " + wrong + " wrong");
        if (wrong != 0) {
            System.exit(1);
        }
    }

    /** The five numbers of one feed(), from a byte of the text on, filled up with blanks. */
    static int[] numbers(String text, int from) {
        int[] row = new int[5];
        for (int i = 0; i < 20; i++) {
            int letter = from + i < text.length() ? text.charAt(from + i) : ' ';
            row[i / 4] = row[i / 4] << 8 | letter;
        }
        return row;
    }

    /** Makes the TAPE, empty before, just this text (of at most 200 bytes). */
    static void type(MileLists x, String text) {
        for (int from = 0; from < text.length(); from += 20) {
            int[] n = numbers(text, from);
            x.feed(n[0], n[1], n[2], n[3], n[4]);
        }
        x.end(text.length());
    }

    static int list(MileLists x, int unit, String text) {
        type(x, text);
        return x.list(unit);
    }

    static int ruin(MileLists x, int at, String name) {
        type(x, name);
        return x.ruin(at);
    }

    static int stone(MileLists x, int at, int miles, int unit, String name) {
        type(x, name);
        return x.stone(at, miles, unit);
    }

    static int apart(MileLists x, int list, int station, String name) {
        type(x, name);
        return x.apart(list, station);
    }

    /** A new object with a list of UNIT 2, and habits: of each the true SIGN, the written SIGN and the COST. */
    static MileLists withList(String text, int... habits) {
        MileLists x = new MileLists();
        list(x, 2, text);
        for (int i = 0; i + 2 < habits.length; i += 3) {
            x.habit(habits[i], habits[i + 1], habits[i + 2]);
        }
        return x;
    }
}
