/** The second half of the document's Terms: RUINS, STONES, HABITS, SOUNDS, PLACINGS and their COST. */
final class EdgesOfCosts extends EdgePart {
    private static final String SIGNS = "IVXL";
    private static final int[] VALUES = {1, 5, 10, 50};

    EdgesOfCosts(Edges edges) {
        super(edges);
    }

    @Override
    void run() {
        ruins();
        ruinPlaces();
        ruinDays();
        stones();
        stoneMiles();
        stoneReach();
        stoneDays();
        habits();
        habitSigns();
        habitCosts();
        readingItself();
        readingSwapped();
        readingWithOneMore();
        readingWithOneLess();
        readingIsNumeral();
        readingLength();
        readingLeastCost();
        sounds();
        namesApart();
        placing();
        costOfReadings();
        costOfRuins();
        lost();
        moved();
        justSo();
        stoneAway();
        knownByThen();
        best();
        firstRow();
        rivals();
        span();
        shared();
        sharedSigns();
        sharedOrder();
        refusedCalls();
        none();
    }

    /** The only PLACING of this list has a at 0 and b at 600. */
    private static MileLists fixedList() {
        return Checks.withList("a LLLLLL b");
    }

    private void ruins() {
        term("RUINS, at most 12:");
        MileLists x = new MileLists();
        for (int i = 0; i < 12; i++) {
            due("ruins ahead of number " + i, x.count(1), i);
            due("number " + i, Checks.ruin(x, 50 * i, "a"), i);
        }
        due("a 13th", Checks.ruin(x, 7, "a"), -1);
        due("still twelve", x.count(1), 12);
        for (int i = 0; i < 12; i++) {
            due("place of number " + i, x.count(10 + i), 50 * i);
        }
        due("no place of a 13th", x.count(22), -1);
    }

    private void ruinPlaces() {
        term("a PLACE (no two have one)");
        for (int at : new int[] {0, 300, 600}) {
            MileLists x = new MileLists();
            due("the first at " + at, Checks.ruin(x, at, "a"), 0);
            due("the same once more", Checks.ruin(x, at, "a"), -1);
            due("another name", Checks.ruin(x, at, "b"), -1);
            x.day(1);
            due("another day", Checks.ruin(x, at, "b"), -1);
            due("one place ahead", Checks.ruin(x, at - 1, "a"), at == 0 ? -1 : 1);
            due("one place behind", Checks.ruin(x, at + 1, "a"), at == 600 ? -1 : at == 0 ? 1 : 2);
            due("a stone may stand there", Checks.stone(x, at, 1, 2, "a"), 0);
        }
    }

    private void ruinDays() {
        term("a NAME, found on a DAY.");
        MileLists x = Checks.withList("abc LLLLLL xyz");
        x.day(4);
        due("a ruin", Checks.ruin(x, 0, "abd"), 0);
        due("found on", x.count(30), 4);
        due("on the day ahead", x.best(0, 3), 20);
        due("on the day", x.best(0, 4), 13);
        x.day(1);
        due("another ruin", Checks.ruin(x, 600, "xyz"), 1);
        due("the first is found on", x.count(30), 4);
        due("the other on", x.count(31), 5);
        due("with the other", x.best(0, 5), 3);
        due("without it", x.best(0, 4), 13);
    }

    private void stones() {
        term("STONES, at most 12: a PLACE, a NAME");
        MileLists x = fixedList();
        for (int i = 0; i < 12; i++) {
            due("stones ahead of number " + i, x.count(2), i);
            due("number " + i + ", all at one place", Checks.stone(x, 5, 5, 2, "a"), i);
            due("each one counts", x.best(0, 0), 20 + 6 * (i + 1));
        }
        due("a 13th", Checks.stone(x, 5, 5, 2, "a"), -1);
        due("still twelve", x.count(2), 12);
        due("the 13th does not count", x.best(0, 0), 20 + 6 * 12);
    }

    private void stoneMiles() {
        term("so many miles (1 to 200)");
        int[][] wanted = {{-1, -1}, {0, -1}, {1, 0}, {2, 0}, {199, 0}, {200, 0}, {201, -1}, {Edges.LOW, -1}, {Edges.HIGH, -1}};
        for (int[] w : wanted) {
            for (int unit = 2; unit <= 3; unit++) {
                due(w[0] + " miles of " + unit, Checks.stone(new MileLists(), 5, w[0], unit, "a"), w[1]);
            }
        }
    }

    private void stoneReach() {
        term("of a UNIT: it says that it stands so far from that NAME;");
        for (int miles : new int[] {1, 2, 100, 199, 200}) {
            for (int unit = 2; unit <= 3; unit++) {
                int reach = miles * unit;
                for (int off = -1; off <= 1; off++) {
                    stoneOff("a", reach + off, miles, unit, off);
                    stoneOff("b", 600 - reach + off, miles, unit, off);
                }
            }
        }
    }

    private void stoneOff(String name, int at, int miles, int unit, int off) {
        MileLists x = fixedList();
        if (at >= 0 && at <= 600) {
            due("a stone for " + name, Checks.stone(x, at, miles, unit, name), 0);
            due(miles + " miles of " + unit + " at " + at + " for " + name, x.best(0, 0), off == 0 ? 20 : 26);
        }
    }

    private void stoneDays() {
        term("that NAME; found on a DAY.");
        MileLists x = fixedList();
        x.day(3);
        Checks.stone(x, 5, 1, 2, "a");
        x.day(1);
        due("on the day ahead", x.best(0, 2), 20);
        due("on the day", x.best(0, 3), 26);
        due("on the day behind", x.best(0, 4), 26);
    }

    private void habits() {
        term("HABITS, at most 20:");
        MileLists x = Checks.withList("a I b");
        for (int i = 0; i < 20; i++) {
            due("habits ahead of number " + i, x.count(3), i);
            due("number " + i, x.habit(1, 0, 20 - i), i);
            due("it counts", x.reading(0, 0, 2), 20 - i);
        }
        due("a 21st", x.habit(2, 0, 1), -1);
        due("still 20", x.count(3), 20);
        due("the 21st does not count", x.reading(0, 0, 6), -1);
    }

    private void habitSigns() {
        term("true SIGN, written SIGN (either may be none, not both, unlike)");
        for (int truly = -2; truly <= 6; truly++) {
            for (int written = -2; written <= 6; written++) {
                boolean right = truly >= 0 && truly <= 4 && written >= 0 && written <= 4 && truly != written;
                MileLists x = new MileLists();
                due("habit " + truly + " " + written, x.habit(truly, written, 1), right ? 0 : -1);
                due("habits then", x.count(3), right ? 1 : 0);
            }
        }
    }

    private void habitCosts() {
        term("COST (1 to 20).");
        int[][] wanted = {{-1, -1}, {0, -1}, {1, 0}, {2, 0}, {19, 0}, {20, 0}, {21, -1}, {Edges.LOW, -1}, {Edges.HIGH, -1}};
        for (int[] w : wanted) {
            MileLists x = Checks.withList("a I b");
            due("habit for " + w[0], x.habit(1, 0, w[0]), w[1]);
            due("reading for " + w[0], x.reading(0, 0, 2), w[1] == 0 ? w[0] : -1);
        }
    }

    private void readingItself() {
        term("READINGS of a NUMERAL: itself, for 0;");
        MileLists x = Checks.withList("a LLLLLLLL b I c");
        for (int i = 0; i < 2; i++) {
            due("the greatest numeral", x.reading(0, 0, 400), 0);
            due("one less", x.reading(0, 0, 399), -1);
            due("one more", x.reading(0, 0, 401), -1);
            due("the least numeral", x.reading(0, 1, 1), 0);
            due("0", x.reading(0, 1, 0), -1);
            due("2", x.reading(0, 1, 2), -1);
            x.habit(2, 4, 1);
        }
    }

    /** Of all values only these are readings: pairs of a VALUE and its COST. */
    private void onlyReadings(MileLists x, int station, int... pairs) {
        // as many calls as an object is used for allow no more than these values
        for (int v = -1; v <= 460; v++) {
            int want = -1;
            for (int i = 0; i + 1 < pairs.length; i += 2) {
                want = pairs[i] == v ? pairs[i + 1] : want;
            }
            due("reading " + v + " of numeral " + station, x.reading(0, station, v), want);
        }
    }

    private void readingSwapped() {
        term("and by one HABIT, for its COST: one of its SIGNS that is the written one is the true one instead");
        onlyReadings(Checks.withList("a II b", 2, 1, 3), 0, 2, 0, 6, 3);
        onlyReadings(Checks.withList("a XX b", 2, 1, 3), 0, 20, 0);
        onlyReadings(Checks.withList("a XX b", 2, 3, 3), 0, 20, 0, 15, 3);
        onlyReadings(Checks.withList("a IIIIIIII b", 4, 1, 20), 0, 8, 0, 57, 20);
        onlyReadings(Checks.withList("a LLLLLLLL b", 1, 4, 1), 0, 400, 0, 351, 1);
        onlyReadings(Checks.withList("a XXXXXXXI b", 2, 1, 9), 0, 71, 0, 75, 9);
        onlyReadings(Checks.withList("a LXXXXXXX b", 3, 4, 9), 0, 120, 0, 80, 9);
        onlyReadings(Checks.withList("a X b", 4, 3, 9), 0, 10, 0, 50, 9);
        // one habit alone, not one behind the other
        onlyReadings(Checks.withList("a XV b", 1, 2, 3, 2, 3, 4), 0, 15, 0, 11, 3, 10, 4);
    }

    private void readingWithOneMore() {
        term("(a written none: the true SIGN comes in once");
        for (int sign = 1; sign <= 4; sign++) {
            onlyReadings(Checks.withList("a XV b", sign, 0, 7), 0, 15, 0, 15 + VALUES[sign - 1], 7);
            onlyReadings(Checks.withList("a I b", sign, 0, 7), 0, 1, 0, 1 + VALUES[sign - 1], 7);
        }
    }

    private void readingWithOneLess() {
        term("a true none: the written one goes)");
        onlyReadings(Checks.withList("a LXVI b", 0, 1, 1, 0, 2, 2, 0, 3, 3, 0, 4, 4), 0, 66, 0, 65, 1, 61, 2, 56, 3, 16, 4);
        onlyReadings(Checks.withList("a II b", 0, 1, 5), 0, 2, 0, 1, 5);
        onlyReadings(Checks.withList("a II b", 0, 2, 5), 0, 2, 0);
        onlyReadings(Checks.withList("a IIIIIIII b", 0, 1, 5), 0, 8, 0, 7, 5);
        onlyReadings(Checks.withList("a LLLLLLLL b", 0, 1, 5), 0, 400, 0);
        onlyReadings(Checks.withList("a LLLLLLLI b", 0, 1, 5), 0, 351, 0, 350, 5);
    }

    private void readingIsNumeral() {
        term("if it is a NUMERAL then");
        onlyReadings(Checks.withList("a VII b", 3, 1, 4), 0, 7, 0);
        onlyReadings(Checks.withList("a VII b", 2, 1, 4), 0, 7, 0, 11, 4);
        onlyReadings(Checks.withList("a LXV b", 1, 3, 4), 0, 65, 0);
        onlyReadings(Checks.withList("a LXV b", 2, 3, 4), 0, 65, 0, 60, 4);
        onlyReadings(Checks.withList("a LXV b", 4, 3, 4), 0, 65, 0, 105, 4);
        onlyReadings(Checks.withList("a LXI b", 1, 3, 4), 0, 61, 0, 52, 4);
        onlyReadings(Checks.withList("a XV b", 4, 2, 4), 0, 15, 0);
        onlyReadings(Checks.withList("a VI b", 1, 2, 4), 0, 6, 0, 2, 4);
        onlyReadings(Checks.withList("a LX b", 2, 4, 4), 0, 60, 0);
        onlyReadings(Checks.withList("a LL b", 2, 4, 4), 0, 100, 0, 55, 4);
        // what the text ahead had left behind is no part of it
        MileLists x = new MileLists();
        Checks.list(x, 2, "a LLLLLLLL ?");
        Checks.list(x, 2, "a XI b");
        x.habit(2, 1, 4);
        x.habit(0, 4, 5);
        onlyReadings(x, 0, 11, 0, 15, 4);
    }

    private void readingLength() {
        term("(9 SIGNS at most here, one at least).");
        for (int sign = 1; sign <= 4; sign++) {
            int value = VALUES[sign - 1];
            String eight = SIGNS.substring(sign - 1, sign).repeat(8);
            onlyReadings(Checks.withList("a " + eight + " b", sign, 0, 7), 0, 8 * value, 0, 9 * value, 7);
            onlyReadings(Checks.withList("a " + eight + " b", 1, 0, 7), 0, 8 * value, 0, 8 * value + 1, 7);
            String one = SIGNS.substring(sign - 1, sign);
            onlyReadings(Checks.withList("a " + one + " b", 0, sign, 7), 0, value, 0);
            onlyReadings(Checks.withList("a " + one + one + " b", 0, sign, 7), 0, 2 * value, 0, value, 7);
        }
        due("nine signs are no numeral of a text", Checks.list(new MileLists(), 2, "a IIIIIIIII b"), -2);
    }

    private void readingLeastCost() {
        term("Of READINGS with one VALUE the least COST counts.");
        due("the first is the least", Checks.withList("a I b", 1, 0, 3, 1, 0, 4).reading(0, 0, 2), 3);
        due("the last is the least", Checks.withList("a I b", 1, 0, 4, 1, 0, 3).reading(0, 0, 2), 3);
        due("both are", Checks.withList("a I b", 1, 0, 3, 1, 0, 3).reading(0, 0, 2), 3);
        due("by one sign more, or another", Checks.withList("a XV b", 3, 2, 8, 2, 0, 5).reading(0, 0, 20), 5);
        due("by another sign, or one more", Checks.withList("a XV b", 3, 2, 5, 2, 0, 8).reading(0, 0, 20), 5);
        due("in a placing too", Checks.withList("a LLLLLLI b", 0, 1, 9, 0, 1, 8).best(0, 0), 28);
    }

    private void sounds() {
        term("SOUNDS: letters are alike if told so, or by others that are (a letter is alike itself).");
        MileLists x = Checks.withList("a I b I c I d");
        due("itself", Checks.apart(x, 0, 0, "a"), 0);
        due("itself is told already", x.sound(0, 0), false);
        due("not told", Checks.apart(x, 0, 0, "b"), 3);
        due("told", x.sound(0, 1), true);
        due("alike", Checks.apart(x, 0, 0, "b"), 1);
        due("alike, turned", Checks.apart(x, 0, 1, "a"), 1);
        due("another is not", Checks.apart(x, 0, 0, "c"), 3);
        due("another pair", x.sound(2, 3), true);
        due("two pairs are not alike", Checks.apart(x, 0, 0, "d"), 3);
        due("told between them", x.sound(1, 2), true);
        due("by others", Checks.apart(x, 0, 0, "d"), 1);
        due("by others, turned", Checks.apart(x, 0, 3, "a"), 1);
        due("known by others", x.sound(0, 3), false);
        due("still itself", Checks.apart(x, 0, 0, "a"), 0);
        due("the next letter is not", Checks.apart(x, 0, 0, "e"), 3);
        // all letters in one chain: the first and the last are alike at its end alone
        x = Checks.withList("a I z");
        for (int i = 0; i < 25; i++) {
            due("a and z ahead of " + i, Checks.apart(x, 0, 0, "z"), 3);
            due("told " + i, x.sound(i, i + 1), true);
        }
        due("a and z", Checks.apart(x, 0, 0, "z"), 1);
        due("z and a", Checks.apart(x, 0, 1, "a"), 1);
    }

    private void namesApart() {
        term("NAMES are as far apart as the least sum by which the one becomes the other, letter by letter: "
            + "a letter for one that is alike, but another one, 1; for one that isn't, 3; one that comes or goes 2.");
        MileLists x = Checks.withList("abcdefgh I a I aaaaaaaa I zzzz");
        due("the same", Checks.apart(x, 0, 0, "abcdefgh"), 0);
        due("one other letter", Checks.apart(x, 0, 0, "abcdefgx"), 3);
        due("the first goes", Checks.apart(x, 0, 0, "bcdefgh"), 2);
        due("the last goes", Checks.apart(x, 0, 0, "abcdefg"), 2);
        due("one comes ahead", Checks.apart(x, 0, 1, "ba"), 2);
        due("one comes behind", Checks.apart(x, 0, 1, "ab"), 2);
        due("one goes and one comes", Checks.apart(x, 0, 0, "bcdefgha"), 4);
        due("seven come", Checks.apart(x, 0, 1, "aaaaaaaa"), 14);
        due("seven go", Checks.apart(x, 0, 2, "a"), 14);
        due("seven come, one is another", Checks.apart(x, 0, 1, "xxxxxxxx"), 17);
        due("all eight unlike, the farthest", Checks.apart(x, 0, 0, "ijklmnop"), 24);
        due("four for four, four go", Checks.apart(x, 0, 2, "zzzz"), 20);
        due("eight for four", Checks.apart(x, 0, 3, "aaaaaaaa"), 20);
        x.sound(0, 25);
        due("eight alike", Checks.apart(x, 0, 2, "zzzzzzzz"), 8);
        due("alike and the same", Checks.apart(x, 0, 2, "zaaaaaaz"), 2);
        due("four alike, four go", Checks.apart(x, 0, 2, "zzzz"), 12);
        due("four alike", Checks.apart(x, 0, 3, "aaaa"), 4);
        due("alike and unlike", Checks.apart(x, 0, 3, "aaax"), 6);
    }

    private void placing() {
        term("A PLACING of a LIST gives each STATION a PLACE: from each to the next it is UNIT times the VALUE of a READING of its NUMERAL.");
        MileLists x = new MileLists();
        Checks.list(x, 3, "aIbIIcIIIdIIIIeVfVIgVIIhVIIIiVIIIIj");
        int[] places = {0, 3, 9, 18, 30, 45, 63, 84, 108, 135};
        for (int s = 0; s < 10; s++) {
            due("place of station " + s, x.at(0, 0, s), places[s]);
            due("its greatest place", x.span(0, 0, 0, s, 1), 465 + places[s]);
        }
        due("as many as the road has room for", x.rivals(0, 0, 0), 466);
        x = Checks.withList("a LLLL b L c L d");
        due("just as long as the road", x.rivals(0, 0, 0), 1);
        due("the last at the end", x.at(0, 0, 3), 600);
        x = Checks.withList("a LLLL b L c LI d");
        due("a mile too long", x.best(0, 0), -2);
        x.habit(0, 1, 20);
        due("but by a habit", x.at(0, 0, 3), 600);
        x = Checks.withList("a LLLLLL b", 1, 0, 1);
        due("a habit that leads too far", x.rivals(0, 0, 20), 1);
    }

    private void costOfReadings() {
        term("Its COST: of all READINGS taken;");
        MileLists x = Checks.withList("aLbLcLdLeLfLgLhLiLj", 1, 4, 20);
        due("four of nine must be read otherwise", x.best(0, 0), 4 * 20 + 100);
        x = new MileLists();
        StringBuilder text = new StringBuilder("aaaaaaaa");
        for (int i = 1; i < 10; i++) {
            text.append('I').append(("" + (char) ('a' + i)).repeat(8));
        }
        Checks.list(x, 2, text.toString());
        x.habit(1, 0, 20);
        x.costs(50, 6);
        for (int i = 0; i < 10; i++) {
            Checks.ruin(x, 4 * i, ("" + (char) ('a' + i)).repeat(8));
        }
        due("all nine read otherwise", x.best(0, 0), 9 * 20);
        due("none taken for nothing", fixedList().best(0, 0), 20);
    }

    private void costOfRuins() {
        term("of each STATION: if a RUIN is at its PLACE, how far their NAMES are apart, else LOST");
        MileLists x = Checks.withList("aaaaaaaa LLLLLL bbbbbbbb");
        due("both lost", x.best(0, 0), 20);
        Checks.ruin(x, 1, "aaaaaaaa");
        Checks.ruin(x, 599, "bbbbbbbb");
        due("one place off, both lost", x.best(0, 0), 20);
        Checks.ruin(x, 0, "zzzzzzzz");
        due("a ruin farther off than lost", x.best(0, 0), 34);
        Checks.ruin(x, 600, "bbbbbbbb");
        due("the same name", x.best(0, 0), 24);
        x.costs(0, 0);
        due("lost for nothing is not lost", x.best(0, 0), 24);
    }

    private void lost() {
        term("LOST (0 to 50, 10 at first)");
        due("at first", new MileLists().count(6), 10);
        int[][] wanted = {{-2, 0}, {-1, 0}, {0, 1}, {1, 1}, {49, 1}, {50, 1}, {51, 0}, {52, 0}, {Edges.LOW, 0}, {Edges.HIGH, 0}};
        for (int[] w : wanted) {
            MileLists x = fixedList();
            due("lost at first", x.best(0, 0), 20);
            due("costs " + w[0] + " 6", x.costs(w[0], 6), w[1] == 1);
            due("lost then", x.count(6), w[1] == 1 ? w[0] : 10);
            due("each station costs it", x.best(0, 0), w[1] == 1 ? 2 * w[0] : 20);
        }
    }

    private void moved() {
        term("and MOVED (0 to 50, 6 at first) for each STONE");
        due("at first", new MileLists().count(7), 6);
        int[][] wanted = {{-2, 0}, {-1, 0}, {0, 1}, {1, 1}, {49, 1}, {50, 1}, {51, 0}, {52, 0}, {Edges.LOW, 0}, {Edges.HIGH, 0}};
        for (int[] w : wanted) {
            MileLists x = fixedList();
            Checks.stone(x, 5, 1, 2, "a");
            Checks.stone(x, 5, 1, 2, "a");
            Checks.stone(x, 5, 1, 2, "b");
            due("moved at first", x.best(0, 0), 20 + 18);
            due("costs 10 " + w[0], x.costs(10, w[0]), w[1] == 1);
            due("moved then", x.count(7), w[1] == 1 ? w[0] : 6);
            due("each stone costs it", x.best(0, 0), 20 + 3 * (w[1] == 1 ? w[0] : 6));
        }
        MileLists x = Checks.withList("aLbLcLdLLLe");
        x.costs(50, 50);
        for (int i = 0; i < 12; i++) {
            Checks.stone(x, 1, 1, 2, "c");
        }
        due("all lost and twelve moved", x.best(0, 0), 5 * 50 + 12 * 50);
    }

    private void justSo() {
        term("with the STATION's NAME just so");
        MileLists x = Checks.withList("ab LLLLLL abcdefgh");
        x.sound(1, 2);
        for (String name : new String[] {"a", "abc", "ac", "bb", "ba", "abcdefg", "abcdefgx", "bcdefgh", "zbcdefgh"}) {
            Checks.stone(x, 5, 1, 2, name);
            due("a stone for " + name, x.best(0, 0), 20);
        }
        Checks.stone(x, 5, 1, 2, "ab");
        due("just so", x.best(0, 0), 26);
        Checks.stone(x, 5, 1, 2, "abcdefgh");
        due("just so, the longest", x.best(0, 0), 32);
    }

    private void stoneAway() {
        term("whose PLACE isn't its miles times its UNIT away from the STATION's.");
        // b is at 300 in the only placing
        for (int[] w : new int[][] {{299, 6}, {300, 6}, {301, 6}, {293, 6}, {294, 0}, {295, 6}, {305, 6}, {306, 0}, {307, 6},
            {298, 6}, {302, 6}, {297, 6}, {303, 6}}) {
            for (int unit = 2; unit <= 3; unit++) {
                MileLists x = Checks.withList("a LLL b LLL c");
                Checks.stone(x, w[0], unit == 2 ? 3 : 2, unit, "b");
                due("a stone at " + w[0] + ", 6 places from b, unit " + unit, x.best(0, 0), 30 + w[1]);
            }
        }
        // the unit of the stone, not that of the list
        MileLists x = Checks.withList("a LLL b LLL c");
        Checks.stone(x, 309, 3, 3, "b");
        due("three miles of its own unit", x.best(0, 0), 30);
    }

    private void knownByThen() {
        term("RUINS and STONES count as known on a DAY: found by then.");
        MileLists x = fixedList();
        x.day(2);
        Checks.ruin(x, 0, "a");
        x.day(2);
        Checks.stone(x, 5, 1, 2, "b");
        x.day(2);
        int[] want = {20, 20, 10, 10, 16, 16, 16, -1};
        for (int day = 0; day < want.length; day++) {
            due("best on day " + day, x.best(0, day), want[day]);
        }
        due("on the day ahead of the first", x.best(0, -1), -1);
        // habits, sounds and costs hold on every day, whenever they were told
        x.costs(20, 6);
        due("costs on the first day", x.best(0, 0), 40);
    }

    private void best() {
        term("The BEST: of the least COST;");
        MileLists x = Checks.withList("a I b", 1, 0, 10);
        Checks.ruin(x, 0, "a");
        Checks.ruin(x, 4, "b");
        due("as dear as one lost", x.best(0, 0), 10);
        due("a tie", x.rivals(0, 0, 0), 3);
        x.habit(1, 0, 9);
        due("one cheaper", x.best(0, 0), 9);
        due("alone", x.rivals(0, 0, 0), 1);
        due("it leads to 4", x.at(0, 0, 1), 4);
        x = Checks.withList("a I b", 1, 0, 11);
        Checks.ruin(x, 0, "a");
        Checks.ruin(x, 4, "b");
        due("one dearer", x.best(0, 0), 10);
        due("no longer among them", x.rivals(0, 0, 0), 2);
    }

    private void firstRow() {
        term("of these the first row of PLACES (the lesser first).");
        MileLists x = Checks.withList("a I b I c");
        for (int s = 0; s < 3; s++) {
            due("from place 0 on, station " + s, x.at(0, 0, s), 2 * s);
        }
        x = Checks.withList("a I b", 1, 0, 10);
        Checks.ruin(x, 10, "a");
        Checks.ruin(x, 14, "b");
        due("the lesser first place", x.at(0, 0, 0), 10);
        due("then the lesser second place", x.at(0, 0, 1), 12);
        Checks.ruin(x, 7, "b");
        due("no cheaper by another ruin", x.best(0, 0), 10);
        due("but with a lesser first place", x.at(0, 0, 0), 5);
        due("b there", x.at(0, 0, 1), 7);
        x = Checks.withList("a II b II c", 1, 0, 1);
        Checks.ruin(x, 0, "a");
        Checks.ruin(x, 10, "c");
        due("the middle one is the lesser", x.at(0, 0, 1), 4);
        // the lesser second place goes ahead of the lesser third: 0 2 12, not 0 4 6
        x = Checks.withList("a II b V c", 0, 1, 1, 1, 2, 1);
        Checks.ruin(x, 0, "a");
        Checks.ruin(x, 6, "c");
        Checks.ruin(x, 12, "c");
        due("two rows", x.rivals(0, 0, 0), 2);
        due("the lesser second", x.at(0, 0, 1), 2);
        due("with the greater third", x.at(0, 0, 2), 12);
    }

    private void rivals() {
        term("RIVALS within d (0 to 20): PLACINGS with a COST of at most that of the BEST and d more.");
        for (int cost = 1; cost <= 20; cost++) {
            MileLists x = Checks.withList("a LLLLLI b", 0, 1, cost);
            due("just the cost, " + cost, x.rivals(0, 0, cost), 99 + 101);
            due("one less than " + cost, x.rivals(0, 0, cost - 1), 99);
        }
        MileLists x = Checks.withList("a LLLLLI b LX c", 0, 4, 20);
        due("the best has one habit", x.best(0, 0), 50);
        int[][] wanted = {{-1, -1}, {0, 0}, {1, 0}, {19, 0}, {20, 1}, {21, -1}, {Edges.LOW, -1}, {Edges.HIGH, -1}};
        for (int[] w : wanted) {
            int got = x.rivals(0, 0, w[0]);
            // one habit: 402 and 120, or 502 and 20; both: 402 and 20
            due("within " + w[0], got, w[1] == -1 ? -1 : 601 - 522 + 601 - 522 + (w[1] == 1 ? 601 - 422 : 0));
        }
    }

    private void span() {
        term("SPAN of a STATION: from its least PLACE to its greatest in RIVALS.");
        MileLists x = Checks.withList("a LLLLLL b");
        due("one placing, the least", x.span(0, 0, 0, 0, 0), 0);
        due("one placing, the greatest", x.span(0, 0, 0, 0, 1), 0);
        x = Checks.withList("a X b", 1, 0, 5);
        Checks.ruin(x, 300, "a");
        // the best costs 10, with a at 300; b there costs 3 more, a mile more 5 more, both 8, all lost 10
        int[][] wanted = {{0, 300, 300, 320, 320}, {2, 300, 300, 320, 320}, {3, 280, 300, 300, 320},
            {4, 280, 300, 300, 320}, {5, 280, 300, 300, 322}, {7, 280, 300, 300, 322}, {8, 278, 300, 300, 322},
            {9, 278, 300, 300, 322}, {10, 0, 580, 20, 600}, {20, 0, 580, 20, 600}};
        for (int[] w : wanted) {
            for (int i = 0; i < 4; i++) {
                due("span within " + w[0] + " of " + i / 2 + ", " + i % 2, x.span(0, 0, w[0], i / 2, i % 2), w[1 + i]);
            }
        }
    }

    /** Two lists of UNIT 2 on land where roma is at 100, and ostia and velia where told. */
    private static int sharedBy(String first, String second, int ostia, int velia) {
        MileLists x = new MileLists();
        Checks.list(x, 2, first);
        Checks.list(x, 2, second);
        x.costs(50, 6);
        x.habit(1, 0, 2);
        x.habit(0, 1, 2);
        Checks.ruin(x, 100, "roma");
        Checks.ruin(x, ostia, "ostia");
        Checks.ruin(x, velia, "velia");
        return x.shared(0, 1, 0);
    }

    private void shared() {
        term("Two LISTS SHARE a FAULT: two NAMES that follow one another in both, with NUMERALS of the same SIGNS, "
            + "of which the BEST of both takes a READING of another VALUE than the NUMERAL has.");
        due("one", sharedBy("roma XI ostia", "roma XI ostia", 124, 300), 1);
        due("none that is right", sharedBy("roma XI ostia", "roma XI ostia", 122, 300), 0);
        due("two", sharedBy("roma XI ostia XI velia", "roma XI ostia XI velia", 124, 148), 2);
        due("two, one is right", sharedBy("roma XI ostia XI velia", "roma XI ostia XI velia", 124, 146), 1);
        due("the last of one, the first of the other", sharedBy("roma XI ostia XI velia", "ostia XI velia", 124, 148), 1);
        due("the first of one, the last of the other", sharedBy("roma XI ostia", "velia X roma XI ostia", 124, 80), 1);
        due("other signs", sharedBy("roma XI ostia", "roma XIII ostia", 124, 300), 0);
        due("signs of one value", sharedBy("roma VVI ostia", "roma XI ostia", 124, 300), 0);
        due("eight signs", sharedBy("roma XVIIIIII ostia", "roma XVIIIIII ostia", 144, 300), 1);
        due("one sign", sharedBy("roma X ostia", "roma X ostia", 122, 300), 1);
        due("other names behind", sharedBy("roma XI ostia", "roma XI velia", 124, 120), 0);
        due("other names ahead", sharedBy("roma XI ostia", "velia XI ostia", 124, 104), 0);
        due("not one behind the other", sharedBy("roma XI ostia XI velia", "roma XI velia", 124, 120), 0);
        due("one has no placing", sharedBy("roma XI ostia", "roma XI ostia LLLLLLLL velia", 124, 300), 0);
    }

    private void sharedSigns() {
        term("with NUMERALS of the same SIGNS");
        // ostia twice, so that each list finds one of its own, a mile farther than it says
        String[][] pairs = {{"XI", "VI"}, {"VI", "VV"}, {"XX", "XV"}, {"LXVI", "XXVI"}, {"XIIIIIII", "VIIIIIII"}, {"XVIIIIII", "XVVIIIII"}};
        for (String[] pair : pairs) {
            MileLists x = new MileLists();
            x.habit(1, 0, 2);
            for (int i = 0; i < 2; i++) {
                Checks.list(x, 2, "roma " + pair[i] + " ostia");
                Checks.ruin(x, 102 + 2 * x.of(i, 10), "ostia");
            }
            Checks.list(x, 2, "roma " + pair[0] + " ostia");
            Checks.ruin(x, 100, "roma");
            due(pair[0] + " by a habit", x.best(0, 0), 2);
            due(pair[1] + " by a habit", x.best(1, 0), 2);
            due(pair[0] + " and " + pair[1], x.shared(0, 1, 0), 0);
            due(pair[0] + " and itself", x.shared(0, 2, 0), 1);
        }
        // what an older, faulty text left behind the last sign is none of it
        MileLists x = new MileLists();
        x.habit(1, 0, 2);
        Checks.list(x, 2, "roma XII ostia ?");
        Checks.list(x, 2, "roma XI ostia");
        Checks.list(x, 2, "roma XI ostia");
        Checks.ruin(x, 100, "roma");
        Checks.ruin(x, 124, "ostia");
        due("behind an older text", x.shared(0, 1, 0), 1);
    }

    private void sharedOrder() {
        term("two NAMES that follow one another in both");
        MileLists x = new MileLists();
        Checks.list(x, 2, "roma XI ostia");
        Checks.list(x, 2, "ostia XI roma");
        Checks.list(x, 2, "roma XI ostia XI alba");
        x.habit(1, 0, 2);
        Checks.ruin(x, 100, "roma");
        Checks.ruin(x, 124, "ostia");
        Checks.ruin(x, 148, "roma");
        due("one read otherwise", x.best(0, 0), 2);
        due("the other too", x.best(1, 0), 2);
        due("but the other way round", x.shared(0, 1, 0), 0);
        due("in the same order", x.shared(0, 2, 0), 1);
    }

    private void refusedCalls() {
        term("A refused call changes nothing (but the TAPE, where it is read).");
        String tape = "alba I velia";
        edges.refused("end", () -> Edges.room(tape), x -> x.end(13), -1);
        edges.refused("list", () -> Edges.room(tape), x -> x.list(1), -1);
        edges.refused("habit", () -> Edges.room(tape), x -> x.habit(1, 1, 1), -1);
        edges.refused("sound", () -> Edges.room(tape), x -> x.sound(0, 26) ? 1 : 0, 0);
        edges.refused("costs", () -> Edges.room(tape), x -> x.costs(51, 0) ? 1 : 0, 0);
        edges.refused("day", () -> Edges.room(tape), x -> x.day(1001), -1);
        edges.refused("reading", () -> Edges.room(tape), x -> x.reading(0, 2, 1), -1);
        edges.refused("best", () -> Edges.room(tape), x -> x.best(2, 0), -1);
        edges.refused("at", () -> Edges.room(tape), x -> x.at(0, 0, 3), -1);
        edges.refused("span", () -> Edges.room(tape), x -> x.span(0, 0, 21, 0, 0), -1);
        edges.refused("rivals", () -> Edges.room(tape), x -> x.rivals(0, 0, 21), -1);
        edges.refused("shared", () -> Edges.room(tape), x -> x.shared(0, 0, 0), -1);
        edges.refused("of", () -> Edges.room(tape), x -> Checks.ofThrows(x, 0, 2), 1);
        edges.refused("letter", () -> Edges.room(tape), x -> x.letter(0, 3, 0), -1);
        edges.refused("count", () -> Edges.room(tape), x -> x.count(8), -1);
        edges.refusedAndRead("ruin with no name", () -> Edges.room(tape), x -> x.ruin(50), -1);
        edges.refusedAndRead("stone with no name", () -> Edges.room(tape), x -> x.stone(50, 1, 2), -1);
        edges.refusedAndRead("apart with no name", () -> Edges.room(tape), x -> x.apart(0, 0), -1);
        edges.refusedAndRead("ruin", () -> Edges.room("velia"), x -> x.ruin(601), -1);
        edges.refusedAndRead("stone", () -> Edges.room("velia"), x -> x.stone(601, 1, 2), -1);
        edges.refusedAndRead("apart", () -> Edges.room("velia"), x -> x.apart(2, 0), -1);
    }

    private void none() {
        term("The constants: `NONE = -1`: There is none.");
        due("NONE", MileLists.NONE, -1);
        due("what is answered", new MileLists().place(), MileLists.NONE);
    }
}
