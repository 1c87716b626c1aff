/** The first half of the document's Terms: the ROAD, NUMERALS, NAMES, and the texts of LISTS. */
final class EdgesOfTexts extends EdgePart {
    private static final String SIGNS = "IVXL";
    private static final int[] VALUES = {1, 5, 10, 50};

    EdgesOfTexts(Edges edges) {
        super(edges);
    }

    @Override
    void run() {
        wholeLife();
        road();
        days();
        signs();
        numeralLength();
        numeralOrder();
        numeralValue();
        nameLength();
        nameLetters();
        lists();
        units();
        textLength();
        stations();
        stationNumbers();
        blanks();
        tokens();
        firstFault();
        leastFault();
        faultStuck();
        faultAtEnd();
        faultTooMany();
        faultTwice();
        oneStation();
    }

    /** A text alone in a new room: what list() answers, and where the fault is (-1 without one). */
    private void text(String text, int want, int wantPlace) {
        MileLists x = new MileLists();
        String shown = text.length() > 40 ? text.substring(0, 40) + ".." : text;
        due("list of '" + shown + "' (" + text.length() + " bytes)", Checks.list(x, 2, text), want);
        due("place in '" + shown + "'", x.place(), wantPlace);
        due("lists behind '" + shown + "'", x.count(0), want >= 0 ? 1 : 0);
    }

    private static MileLists withList(int unit, String text) {
        MileLists x = new MileLists();
        Checks.list(x, unit, text);
        return x;
    }

    /** The names a, b, c and so on, with a numeral I between each two. */
    private static String inTurn(int stations) {
        StringBuilder text = new StringBuilder("a");
        for (int i = 1; i < stations; i++) {
            text.append('I').append((char) ('a' + i));
        }
        return text.toString();
    }

    private void wholeLife() {
        edges.sentence("What it is", "An object is used for at most 512 calls after it has been made");
        MileLists x = new MileLists();
        MileLists other = withList(3, "b I c");
        int calls = 0;
        while (calls < 60) {
            due("feed", x.feed(0x61204920, 0x62202020, 0x20202020, 0x20202020, 0x20202020), 20);
            due("end", x.end(5), 5);
            due("list", x.list(2), calls < 12 ? calls / 3 : -1);
            due("end", calls < 12 ? 0 : x.end(0), 0);
            calls += calls < 12 ? 3 : 4;
        }
        while (calls < 508) {
            calls += 4;
            due("day, before call " + calls, x.day(1), (calls - 60) / 4);
            due("best, before call " + calls, x.best(calls % 3, (calls - 60) / 4), 20);
            due("rivals, before call " + calls, x.rivals(3, 0, calls % 21), 599);
            due("costs, call " + calls, x.costs(10, calls % 51), true);
        }
        due("call 509", x.best(0, 112), 20);
        due("call 510", x.at(0, 112, 1), 2);
        due("call 511", x.count(4), 112);
        due("call 512", x.span(3, 112, 0, 0, 1), 598);
        due("another room has its own day", other.count(4), 0);
        due("and its own lists", other.count(0), 1);
    }

    private void road() {
        term("A ROAD has PLACES 0 to 600.");
        int[][] wanted = {{-2, -1}, {-1, -1}, {0, 0}, {1, 0}, {599, 0}, {600, 0}, {601, -1}, {602, -1}};
        for (int[] w : wanted) {
            MileLists x = new MileLists();
            due("ruin at " + w[0], Checks.ruin(x, w[0], "a"), w[1]);
            due("stone at " + w[0], Checks.stone(x, w[0], 1, 2, "a"), w[1]);
        }
        MileLists x = withList(2, "a LLLLLI b");
        due("502 places long", x.rivals(0, 0, 0), 99);
        due("a from 0 on", x.span(0, 0, 0, 0, 0), 0);
        due("a up to 98", x.span(0, 0, 0, 0, 1), 98);
        due("b from 502 on", x.span(0, 0, 0, 1, 0), 502);
        due("b up to 600", x.span(0, 0, 0, 1, 1), 600);
        due("600 places long", withList(2, "a LLLLLL b").rivals(0, 0, 20), 1);
        due("602 places long", withList(2, "a LLLLLLI b").best(0, 0), -2);
        due("600 by another unit", withList(3, "a LLLL b").rivals(0, 0, 20), 1);
        due("603 places long", withList(3, "a LLLLI b").best(0, 0), -2);
        x = withList(2, "a LLLLLL b");
        Checks.ruin(x, 0, "a");
        Checks.ruin(x, 600, "b");
        due("ruins at both ends", x.best(0, 0), 0);
    }

    private void days() {
        term("DAYS are numbered from 0 on.");
        MileLists x = withList(2, "a I b");
        due("the first day", x.count(4), 0);
        Checks.ruin(x, 5, "a");
        due("found on it", x.count(30), 0);
        due("known on it", x.best(0, 0), 10);
        due("the day ahead of it", x.best(0, -1), -1);
        due("the day behind it, not yet", x.best(0, 1), -1);
        due("one day", x.day(1), 1);
        due("the day behind it", x.best(0, 1), 10);
    }

    private void signs() {
        term("SIGNS: I 1, V 5, X 10, L 50.");
        for (int b = 0; b < 256; b++) {
            String text = "a " + (char) b + " b";
            int sign = SIGNS.indexOf(b);
            if (sign >= 0) {
                due("value of sign " + b, withList(2, text).of(0, 10), VALUES[sign]);
            } else {
                text(text, -2, b == 32 || b == 10 ? 4 : 2);
            }
        }
    }

    private void numeralLength() {
        term("A NUMERAL: 1 to 8 SIGNS");
        text("a  b", -2, 3);
        for (int n = 1; n <= 194; n++) {
            for (int sign = 0; sign < 4; sign += 3) {
                String text = "a " + SIGNS.substring(sign, sign + 1).repeat(n) + " b";
                text(text, n <= 8 ? 0 : -2, n <= 8 ? -1 : 2);
                if (n <= 8) {
                    due("value of " + text, withList(2, text).of(0, 10), n * VALUES[sign]);
                }
            }
        }
        text("a LXXVVIII b", 0, -1);
        text("a LXXVVIIII b", -2, 2);
        text("a LLXXVVIII b", -2, 2);
    }

    private void numeralOrder() {
        term("none greater than the one ahead of it");
        for (int i = 0; i < 4; i++) {
            for (int j = 0; j < 4; j++) {
                for (int k = 0; k < 4; k++) {
                    String signs = "" + SIGNS.charAt(i) + SIGNS.charAt(j) + SIGNS.charAt(k);
                    boolean falls = i >= j && j >= k;
                    text("a " + signs + " b", falls ? 0 : -2, falls ? -1 : 2);
                }
            }
        }
        text("a LLLLLLLX b", 0, -1);
        text("a XXXXXXXL b", -2, 2);
        text("a LXXXXXXX b", 0, -1);
        text("a XLXXXXXX b", -2, 2);
    }

    private void numeralValue() {
        term("its VALUE is the sum of all");
        String[] numerals = {"I", "IIII", "IIIIIIII", "VI", "VIIII", "VV", "XV", "LXVI", "LXXXXVII", "LLXXVVII", "LLLLLLLL"};
        int[] values = {1, 4, 8, 6, 9, 10, 15, 66, 97, 132, 400};
        for (int i = 0; i < numerals.length; i++) {
            due("value of " + numerals[i], withList(2, "a " + numerals[i] + " b").of(0, 10), values[i]);
        }
    }

    private void nameLength() {
        term("A NAME: 1 to 8 small letters.");
        for (int n = 0; n <= 193; n++) {
            String word = "x".repeat(n);
            boolean name = n >= 1 && n <= 8;
            text(word + " I b", name ? 0 : -2, name ? -1 : n == 0 ? 1 : 0);
            text("a I " + word, name ? 0 : -2, name ? -1 : 4);
            MileLists x = withList(2, "a I b");
            due("ruin with " + n + " letters", Checks.ruin(x, 5, word), name ? 0 : -1);
            due("stone with " + n + " letters", Checks.stone(x, 5, 1, 2, word), name ? 0 : -1);
            due("apart with " + n + " letters", Checks.apart(x, 0, 0, word), name ? 2 * n + 1 : -1);
        }
    }

    private void nameLetters() {
        term("A NAME: 1 to 8 small letters.");
        for (int b = 0; b < 256; b++) {
            boolean small = b >= 97 && b <= 122;
            String[] words = {"" + (char) b, (char) b + "a", "a" + (char) b, "aaaaaaa" + (char) b};
            MileLists x = new MileLists();
            for (int i = 0; i < words.length; i++) {
                due("ruin with byte " + b + ", " + i, Checks.ruin(x, i, words[i]), small ? i : -1);
            }
        }
    }

    private void lists() {
        term("LISTS, at most 4, numbered as they come");
        MileLists x = new MileLists();
        due("none yet", x.best(0, 0), -1);
        for (int i = 0; i < 4; i++) {
            due("a faulty one does not count", Checks.list(x, 2, "a I"), -2);
            due("list " + i, Checks.list(x, 2, "a " + "I".repeat(i + 1) + " b"), i);
            due("so many", x.count(0), i + 1);
            due("no further one", x.best(i + 1, 0), -1);
        }
        due("a fifth", Checks.list(x, 2, "a V b"), -1);
        due("still four", x.count(0), 4);
        for (int i = 0; i < 4; i++) {
            due("list " + i + " is what it was", x.of(i, 10), i + 1);
        }
        due("no list 4", x.best(4, 0), -1);
        due("no list -1", x.best(-1, 0), -1);
    }

    private void units() {
        term("have a UNIT (2 or 3 PLACES a mile)");
        for (int unit = -3; unit <= 5; unit++) {
            MileLists x = new MileLists();
            boolean right = unit == 2 || unit == 3;
            due("unit " + unit, Checks.list(x, unit, "a II b"), right ? 0 : -1);
            due("two miles of " + unit, x.at(0, 0, 1), right ? 2 * unit : -1);
        }
    }

    private void textLength() {
        term("and come as a text of at most 200 bytes:");
        text("a" + " ".repeat(99) + "I" + " ".repeat(98) + "b", 0, -1);
        text("a I " + " ".repeat(188) + "bcdefghi", 0, -1);
        text("a I b" + "\n".repeat(194) + "?", -2, 199);
        text("a I" + " ".repeat(197), -2, 200);
        text("a".repeat(200), -2, 0);
        text(" ".repeat(200), -2, 200);
        StringBuilder longest = new StringBuilder("aaaaaaaa");
        for (int i = 1; i < 10; i++) {
            longest.append("   IIIIIIII ").append(" ".repeat(i == 9 ? 4 : 1)).append(("" + (char) ('a' + i)).repeat(8));
        }
        text(longest + " ".repeat(200 - longest.length()), 0, -1);
        MileLists x = new MileLists();
        Checks.type(x, "a I b" + " ".repeat(195));
        due("20 more bytes", x.feed(0x61616161, 0, 0, 0, 0), -1);
        due("200 bytes are a list all the same", x.list(2), 0);
    }

    private void stations() {
        term("NAME {NUMERAL NAME}: 2 to 10 STATIONS");
        text("", -2, 0);
        text("a", -2, 1);
        for (int n = 2; n <= 10; n++) {
            text(inTurn(n), 0, -1);
            due("stations of " + inTurn(n), withList(2, inTurn(n)).of(0, 1), n);
        }
        for (int n = 11; n <= 14; n++) {
            text(inTurn(n), -3, 20);
        }
        text("I", -2, 0);
        text("aI", -2, 2);
        text("Ib", -2, 0);
        text("aIbI", -2, 4);
        text("a b I c", -2, 2);
        text("a I b c", -2, 6);
    }

    private void stationNumbers() {
        term("numbered from 0 on, between each two how many miles it is.");
        MileLists x = withList(2, "aIbIIcIIIdIIIIeVfVIgVIIhVIIIiXj");
        int[] miles = {1, 2, 3, 4, 5, 6, 7, 8, 10};
        for (int s = 0; s < 10; s++) {
            due("name of station " + s, x.letter(0, s, 0), 'a' + s);
        }
        for (int s = 0; s < 9; s++) {
            due("miles behind station " + s, x.of(0, 10 + s), miles[s]);
        }
        due("no station -1", x.letter(0, -1, 0), -1);
        due("no station 10", x.letter(0, 10, 0), -1);
        due("no miles behind the last", Checks.ofThrows(x, 0, 19), 1);
        due("the last of two", withList(2, "a I b").letter(0, 1, 0), 'b');
        due("no third of two", withList(2, "a I b").letter(0, 2, 0), -1);
    }

    private void blanks() {
        term("TOKENS, blanks (32, 10) between where one likes:");
        for (int b = 0; b < 256; b++) {
            boolean blank = b == 32 || b == 10;
            // behind a sign that stands alone, the next sign is one too many
            text("a " + (char) b + " I b", blank ? 0 : -2, blank ? -1 : SIGNS.indexOf(b) >= 0 ? 4 : 2);
        }
        text("aIb", 0, -1);
        text(" aIb", 0, -1);
        text("\naIb", 0, -1);
        text("aIb ", 0, -1);
        text("aIb\n", 0, -1);
        text("a Ib", 0, -1);
        text("aI\nb", 0, -1);
        text("\n \n a \n\n I  \n b \n ", 0, -1);
        text("aIbXc", 0, -1);
    }

    private void tokens() {
        term("WORDS (small letters, as many as stand together), SIGNS that stand together.");
        text("abcdefgh I b", 0, -1);
        text("abcdefghi I b", -2, 0);
        text("abcd efgh I b", -2, 5);
        text("abcd\nefgh I b", -2, 5);
        text("a IIIIIIII b", 0, -1);
        text("a IIII IIII b", -2, 7);
        text("a IIII\nIIII b", -2, 7);
        text("a V I b", -2, 4);
        text("a I V b", -2, 4);
        MileLists x = withList(2, "abcdefghIIb");
        due("all letters that stand together", x.of(0, 20), 8);
        due("all signs that stand together", x.of(0, 10), 2);
    }

    private void firstFault() {
        term("FAULTS, the first from the left");
        text("a I a I IX", -4, 4);
        text("a IX a", -2, 2);
        text("a I a ?", -4, 4);
        text("a I ? a", -2, 4);
        text("? a I a", -2, 0);
        text(" abcdefghi IX ?", -2, 1);
        text(inTurn(10) + "IX" + "k", -2, 19);
        text(inTurn(11) + "?", -3, 20);
        text(inTurn(11) + "IX", -3, 20);
        text(inTurn(11) + "IkIa", -3, 20);
        text("aIbIcIdIeIfIgIhIaIjIk", -4, 16);
        text("aIbIcIdIeIfIgIhIiIaIk", -4, 18);
        text(inTurn(10) + "?Ik", -2, 19);
        text("a I a I", -4, 4);
    }

    private void leastFault() {
        term("of one place the least:");
        text(inTurn(10) + "Ia", -3, 20);
        text(inTurn(10) + "Ij", -3, 20);
        text(inTurn(10) + "Iaaaaaaaaa", -2, 20);
        text(inTurn(10) + "Iaaaaaaaa", -3, 20);
        text("aaaaaaaa I aaaaaaaaa", -2, 11);
        text(inTurn(10) + "I a", -3, 21);
    }

    private void faultStuck() {
        term("1 a byte or TOKEN with which no text goes on (a WORD that is no NAME, SIGNS that are no NUMERAL, at the first byte;");
        text("a I abcdefghi", -2, 4);
        text("  abcdefghi", -2, 2);
        text("abcdefghi", -2, 0);
        text("a IV b", -2, 2);
        text("a  VIX", -2, 3);
        text("a IIIIIIIII", -2, 2);
        text("IX a", -2, 0);
        text("V a", -2, 0);
        text("a I V", -2, 4);
        text("a I IX b", -2, 4);
        text("a b", -2, 2);
        text("a abcdefghi", -2, 2);
        text("a I b c", -2, 6);
        text("a I b IX", -2, 6);
        text("a I b.", -2, 5);
        text("ab-c I d", -2, 2);
        text("a I.I b", -2, 3);
        text("a I B", -2, 4);
        text("A I b", -2, 0);
        text("aBc I b", -2, 1);
        text("a I bCd", -2, 5);
    }

    private void faultAtEnd() {
        term("the end: at how many bytes there are);");
        text("", -2, 0);
        text(" ", -2, 1);
        text("\n\n", -2, 2);
        text("a I", -2, 3);
        text("a I \n ", -2, 6);
        text("aIbVI", -2, 5);
        text(inTurn(9) + "I", -2, 18);
        text(inTurn(10) + "I", -2, 20);
        text(inTurn(10) + "I  ", -2, 22);
        text("a I b I" + " ".repeat(193), -2, 200);
    }

    private void faultTooMany() {
        term("2 an 11th STATION's NAME;");
        text(inTurn(10), 0, -1);
        text(inTurn(10) + "  ", 0, -1);
        text(inTurn(10) + "Ik", -3, 20);
        text(inTurn(10) + " I  k", -3, 23);
        text(inTurn(10) + "Iabcdefgh", -3, 20);
        text(inTurn(10) + "IkIl", -3, 20);
        text(inTurn(10) + "k", 0, -1);
        text(inTurn(10) + " k", -2, 20);
        text("aIbIcIdIeIfIgIhIiIjLLLLLLLLk", -3, 27);
    }

    private void faultTwice() {
        term("3 a NAME that a STATION ahead has.");
        text("a I a", -4, 4);
        text("a I b I a", -4, 8);
        text("a I b I b", -4, 8);
        text("aIbIcIdIeIfIgIhIiIa", -4, 18);
        text("aIbIcIdIeIfIgIhIiIi", -4, 18);
        text("abcdefgh I abcdefgh", -4, 11);
        text("abcdefgh I abcdefgx", 0, -1);
        text("abcdefgh I xbcdefgh", 0, -1);
        text("abcdefgh I abcdefg", 0, -1);
        text("ab I a I b I ba", 0, -1);
        text("a I ab", 0, -1);
        MileLists x = withList(2, "a I b");
        due("of another list", Checks.list(x, 2, "a I b"), 1);
        due("of another list, turned", Checks.list(x, 2, "b I a"), 2);
        due("of a faulty text", Checks.list(x, 2, "c I d ?"), -2);
        due("no longer", Checks.list(x, 2, "d I c"), 3);
    }

    private void oneStation() {
        term("At the end of a text with one STATION: 1.");
        text("a", -2, 1);
        text(" a", -2, 2);
        text("a ", -2, 2);
        text("abcdefgh", -2, 8);
        text("abcdefgh\n", -2, 9);
        text("a" + " ".repeat(199), -2, 200);
        text("a I b", 0, -1);
    }
}
