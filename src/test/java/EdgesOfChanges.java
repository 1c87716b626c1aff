/** Promises 1 to 11 of the document: a new object, the TAPE, and all that changes something. */
final class EdgesOfChanges extends EdgePart {
    private static final String TEN = "aIbIcIdIeIfIgIhIiIj";

    EdgesOfChanges(Edges edges) {
        super(edges);
    }

    @Override
    void run() {
        newObject();
        feedBytes();
        feedFull();
        end();
        endRefused();
        list();
        listFaults();
        listRefused();
        place();
        noPlace();
        ruin();
        ruinNoName();
        ruinPlace();
        ruinTaken();
        ruinFull();
        stone();
        stoneNoName();
        stoneNumbers();
        stoneFull();
        habit();
        habitNumbers();
        habitFull();
        sound();
        soundKnown();
        soundNoLetters();
        costs();
        costsRefused();
        day();
        dayRefused();
        dayLast();
        for (int promise = 1; promise <= 11; promise++) {
            edges.wholeQuoted("Promise " + promise);
        }
    }

    /** Feeds 20 zeros. */
    private static int feedZeros(MileLists x) {
        return x.feed(0, 0, 0, 0, 0);
    }

    private void newObject() {
        promise(1, "No LISTS, RUINS, STONES, HABITS, SOUNDS; DAY 0; an empty TAPE.");
        MileLists x = new MileLists();
        int[] want = {0, 0, 0, 0, 0, 0, 10, 6};
        for (int what = 0; what < 45; what++) {
            due("count " + what, x.count(what), what < want.length ? want[what] : -1);
        }
        due("no list", x.best(0, 0), -1);
        due("no list's letter", x.letter(0, 0, 0), -1);
        due("no list's unit", Checks.ofThrows(x, 0, 0), 1);
        due("no fault", x.place(), -1);
        due("no byte on the tape", x.end(1), -1);
        for (int i = 1; i < 26; i++) {
            due("no sounds: 0 and " + i, x.sound(0, i), true);
        }
        x = new MileLists();
        due("an empty tape is no list", x.list(2), -2);
        due("its fault", x.place(), 0);
        due("an empty tape is no ruin", x.ruin(0), -1);
        due("an empty tape is no stone", x.stone(0, 1, 2), -1);
        due("another is full", Edges.fullRoom("abc").count(0), 4);
        for (int what = 0; what < want.length; what++) {
            due("count " + what + " of one made behind it", new MileLists().count(what), want[what]);
        }
    }

    private void feedBytes() {
        promise(2, "Twenty bytes come behind the TAPE, of each number the highest first: how many it has;");
        MileLists x = new MileLists();
        due("five numbers", x.feed(0x61204920, 0x62204920, 0x63204920, 0x64204920, 0x65204966), 20);
        due("a list of them", x.list(2), 0);
        for (int i = 0; i < 6; i++) {
            due("station " + i, x.letter(0, i, 0), 'a' + i);
        }
        x = new MileLists();
        Checks.type(x, "ab");
        due("behind two bytes", x.feed(0x63642049, 0x20787920, 0x20202020, 0x20202020, 0x20202020), 22);
        due("a list of both", x.list(2), 0);
        for (int i = 0; i < 4; i++) {
            due("letter " + i, x.letter(0, 0, i), 'a' + i);
        }
        // a byte above 127 is no letter, and none of the next byte's
        for (int number : new int[] {0xE1616161, 0x61E16161, 0x6161E161, 0x616161E1, -1, 0x80000000}) {
            x = new MileLists();
            x.feed(number, 0, 0, 0, 0);
            x.end(4);
            due("no name " + Integer.toHexString(number), x.ruin(0), -1);
        }
        // every byte comes through: its fault is at its place
        for (int i = 0; i < 20; i++) {
            int[] n = {0x20202020, 0x20202020, 0x20202020, 0x20202020, 0x20202020};
            n[i / 4] = n[i / 4] & ~(255 << (24 - 8 * (i % 4))) | 255 << (24 - 8 * (i % 4));
            x = new MileLists();
            x.feed(n[0], n[1], n[2], n[3], n[4]);
            due("byte 255 as number " + i, x.list(2), -2);
            due("place of it", x.place(), i);
        }
    }

    private void feedFull() {
        promise(2, "NONE if these would be more than 200.");
        MileLists x = new MileLists();
        for (int i = 1; i <= 10; i++) {
            due("feed " + i, feedZeros(x), 20 * i);
        }
        due("feed 11", feedZeros(x), -1);
        due("full", x.count(5), 200);
        int[][] wanted = {{0, 20}, {1, 21}, {179, 199}, {180, 200}, {181, -1}, {199, -1}, {200, -1}};
        for (int[] w : wanted) {
            x = new MileLists();
            Checks.type(x, "a".repeat(w[0]));
            due("feed behind " + w[0], feedZeros(x), w[1]);
            due("bytes then", x.count(5), w[1] == -1 ? w[0] : w[1]);
        }
        String text = "velia I alba" + " ".repeat(169);
        edges.refused("feed behind 181", () -> Edges.room(text), EdgesOfChanges::feedZeros, -1);
        edges.refused("feed behind 200", () -> Edges.room(text + " ".repeat(19)), EdgesOfChanges::feedZeros, -1);
    }

    private void end() {
        promise(3, "The TAPE has its first n bytes alone: n;");
        for (int n = 1; n <= 8; n++) {
            MileLists x = new MileLists();
            Checks.list(x, 2, "abcdefgh I x");
            Checks.type(x, "abcdefgh");
            due("end " + n, x.end(n), n);
            due("bytes then", x.count(5), n);
            due("the first " + n, x.apart(0, 0), 2 * (8 - n));
        }
        MileLists x = new MileLists();
        due("0 of none", x.end(0), 0);
        Checks.type(x, "a".repeat(200));
        due("200 of 200", x.end(200), 200);
        due("199 of 200", x.end(199), 199);
        due("0 of 199", x.end(0), 0);
        due("an empty tape", x.count(5), 0);
        due("nothing comes back", x.end(1), -1);
    }

    private void endRefused() {
        promise(3, "NONE if it has less, or n is below 0.");
        String text = "velia I alba";
        due("1 of none", new MileLists().end(1), -1);
        due("-1 of none", new MileLists().end(-1), -1);
        for (int n : new int[] {13, 14, 20, 200, 201, Edges.HIGH, -1, -2, Edges.LOW}) {
            edges.refused("end " + n + " of 12", () -> Edges.room(text), x -> x.end(n), -1);
        }
        MileLists x = new MileLists();
        Checks.type(x, "a".repeat(200));
        due("201 of 200", x.end(201), -1);
        due("200 are left", x.count(5), 200);
    }

    private void list() {
        promise(4, "The TAPE (empty then) is a LIST with a UNIT: its number;");
        MileLists x = new MileLists();
        for (int i = 0; i < 4; i++) {
            due("list " + i, Checks.list(x, 2 + i % 2, "a I b"), i);
            due("the tape behind it", x.count(5), 0);
            due("its unit", x.of(i, 0), 2 + i % 2);
        }
        x = new MileLists();
        Checks.list(x, 2, "a I b");
        due("the empty tape is no further list", x.list(2), -2);
        due("one list", x.count(0), 1);
    }

    private void listFaults() {
        promise(4, "with a FAULT 1 less than minus its kind (-2 to -4).");
        edges.refusedAndRead("kind 1", () -> Edges.room("a I IV"), x -> x.list(2), -2);
        edges.refusedAndRead("kind 1 at the end", () -> Edges.room("aIbV"), x -> x.list(2), -2);
        edges.refusedAndRead("kind 3", () -> Edges.room("a I a"), x -> x.list(2), -4);
        // with the same place of a fault ahead of it, nothing but the tape is left to change
        edges.refusedAndRead("kind 2", () -> {
            MileLists x = Edges.room("");
            Checks.list(x, 2, TEN + "I");
            Checks.type(x, TEN + "Ik");
            return x;
        }, x -> x.list(2), -3);
        due("of both kinds the least", Checks.list(new MileLists(), 2, TEN + "Ia"), -3);
        MileLists x = new MileLists();
        Checks.list(x, 2, TEN + "Ik");
        due("no list by it", x.count(0), 0);
        due("the next is the first", Checks.list(x, 2, "a I b"), 0);
        due("with its own stations", x.of(0, 1), 2);
    }

    private void listRefused() {
        promise(4, "NONE: another UNIT, four are there (the TAPE stays).");
        for (int unit : new int[] {1, 4, 0, -1, -2, -3, 5, Edges.LOW, Edges.HIGH}) {
            edges.refused("unit " + unit, () -> Edges.room("velia I alba"), x -> x.list(unit), -1);
            edges.refused("unit " + unit + " with a faulty text", () -> Edges.room("velia I"), x -> x.list(unit), -1);
        }
        edges.refused("a fifth", () -> Edges.fullRoom("velia I alba"), x -> x.list(2), -1);
        edges.refused("a fifth, faulty", () -> Edges.fullRoom("velia I"), x -> x.list(3), -1);
        MileLists x = Edges.room("velia");
        x.list(4);
        due("the tape is what it was", x.ruin(300), 2);
        x = Edges.fullRoom("roma");
        x.list(2);
        due("the tape is what it was, behind four", x.apart(0, 0), 0);
    }

    private void place() {
        promise(5, "The place of the FAULT of the latest list() that was not NONE;");
        MileLists x = new MileLists();
        Checks.list(x, 2, "");
        due("the least place", x.place(), 0);
        Checks.list(x, 2, "a" + " ".repeat(199));
        due("the greatest place", x.place(), 200);
        due("asked once more", x.place(), 200);
        Checks.type(x, "a I a");
        due("NONE", x.list(1), -1);
        due("behind a NONE it stays", x.place(), 200);
        due("the same text with a right unit", x.list(2), -4);
        due("the later fault", x.place(), 4);
        Checks.ruin(x, 5, "ab cd");
        due("no other call has one", x.place(), 4);
    }

    private void noPlace() {
        promise(5, "NONE without one.");
        MileLists x = new MileLists();
        due("no list() yet", x.place(), -1);
        x.list(1);
        due("a NONE alone", x.place(), -1);
        Checks.list(x, 2, "a I ?");
        due("a fault", x.place(), 4);
        Checks.list(x, 2, "a I b");
        due("the latest has none", x.place(), -1);
        x = Edges.fullRoom("a I ?");
        x.list(2);
        due("a fifth is no later one", x.place(), -1);
    }

    private void ruin() {
        promise(6, "A RUIN with the NAME that the TAPE is (empty then): its number.");
        MileLists x = new MileLists();
        Checks.list(x, 2, "abcdefgh LLLLLL x");
        due("the longest name, the first place", Checks.ruin(x, 0, "abcdefgh"), 0);
        due("an empty tape", x.count(5), 0);
        due("the shortest name, the last place", Checks.ruin(x, 600, "x"), 1);
        due("its name and place count", x.best(0, 0), 0);
        due("the tape is gone", x.ruin(5), -1);
        due("two", x.count(1), 2);
    }

    private void ruinNoName() {
        promise(6, "NONE: it is no NAME");
        for (String tape : new String[] {"", "abcdefghi", " ", " a", "a ", "a b", "a\n", "A", "I", "aI", "a1", "`", "{", "\0", "\u00e1"}) {
            edges.refusedAndRead("ruin with '" + tape + "'", () -> Edges.room(tape), x -> x.ruin(300), -1);
        }
    }

    private void ruinPlace() {
        promise(6, "another PLACE");
        for (int at : new int[] {-1, 601, -2, 602, Edges.LOW, Edges.HIGH}) {
            edges.refusedAndRead("ruin at " + at, () -> Edges.room("velia"), x -> x.ruin(at), -1);
        }
        due("ruin at 0", Edges.room("velia").ruin(0), 2);
        due("ruin at 600", Edges.room("velia").ruin(600), 2);
    }

    private void ruinTaken() {
        promise(6, "one is there");
        for (int at : new int[] {100, 126}) {
            edges.refusedAndRead("ruin at " + at, () -> Edges.room("velia"), x -> x.ruin(at), -1);
            due("ruin ahead of it", Edges.room("velia").ruin(at - 1), 2);
            due("ruin behind it", Edges.room("velia").ruin(at + 1), 2);
        }
        due("a stone is no ruin", Edges.room("velia").ruin(112), 2);
    }

    private void ruinFull() {
        promise(6, "twelve are.");
        edges.refusedAndRead("a 13th", () -> Edges.fullRoom("velia"), x -> x.ruin(300), -1);
        edges.refusedAndRead("a 13th where one is", () -> Edges.fullRoom("velia"), x -> x.ruin(100), -1);
        MileLists x = new MileLists();
        for (int i = 0; i < 11; i++) {
            Checks.ruin(x, i, "a");
        }
        due("the twelfth", Checks.ruin(x, 11, "a"), 11);
        due("the 13th", Checks.ruin(x, 12, "a"), -1);
    }

    private void stone() {
        promise(7, "A STONE with the NAME that the TAPE is (empty then): its number.");
        MileLists x = new MileLists();
        Checks.list(x, 2, "abcdefgh LLLLLL x");
        due("the least of all", Checks.stone(x, 0, 1, 2, "x"), 0);
        due("an empty tape", x.count(5), 0);
        due("it counts for x", x.best(0, 0), 26);
        due("the greatest of all", Checks.stone(x, 600, 200, 3, "abcdefgh"), 1);
        due("it is right", x.best(0, 0), 26);
        due("one mile less", Checks.stone(x, 600, 199, 3, "abcdefgh"), 2);
        due("it is not", x.best(0, 0), 32);
        due("the tape is gone", x.stone(600, 200, 3), -1);
        due("three", x.count(2), 3);
    }

    private void stoneNoName() {
        promise(7, "NONE: it is no NAME");
        for (String tape : new String[] {"", "abcdefghi", " ", " a", "a ", "a b", "a\n", "A", "I", "aI", "a1", "`", "{", "\0", "\u00e1"}) {
            edges.refusedAndRead("stone with '" + tape + "'", () -> Edges.room(tape), x -> x.stone(300, 1, 2), -1);
        }
    }

    private void stoneNumbers() {
        promise(7, "other numbers");
        int[][] wrong = {{-1, 1, 2}, {601, 1, 2}, {5, 0, 2}, {5, 201, 2}, {5, -1, 3}, {5, 1, 1}, {5, 1, 4}, {5, 1, 0}, {5, 1, -2},
            {Edges.LOW, 1, 2}, {Edges.HIGH, 1, 2}, {5, Edges.LOW, 2}, {5, Edges.HIGH, 2}, {5, 1, Edges.LOW}, {5, 1, Edges.HIGH}};
        for (int[] w : wrong) {
            edges.refusedAndRead("stone " + w[0] + " " + w[1] + " " + w[2], () -> Edges.room("roma"),
                x -> x.stone(w[0], w[1], w[2]), -1);
        }
        int[][] right = {{0, 1, 2}, {600, 1, 2}, {5, 1, 3}, {5, 200, 2}, {5, 200, 3}, {112, 6, 2}};
        for (int[] r : right) {
            due("stone " + r[0] + " " + r[1] + " " + r[2], Edges.room("roma").stone(r[0], r[1], r[2]), 2);
        }
    }

    private void stoneFull() {
        promise(7, "twelve are there.");
        edges.refusedAndRead("a 13th", () -> Edges.fullRoom("velia"), x -> x.stone(300, 1, 2), -1);
        edges.refusedAndRead("a 13th with a known name", () -> Edges.fullRoom("roma"), x -> x.stone(300, 1, 2), -1);
        MileLists x = new MileLists();
        for (int i = 0; i < 11; i++) {
            Checks.stone(x, 0, 1, 2, "a");
        }
        due("the twelfth", Checks.stone(x, 0, 1, 2, "a"), 11);
        due("the 13th", Checks.stone(x, 0, 1, 2, "a"), -1);
    }

    private void habit() {
        promise(8, "A HABIT (0 none, 1 to 4 the SIGNS from I on): its number.");
        int[] values = {0, 1, 5, 10, 50};
        for (int sign = 1; sign <= 4; sign++) {
            MileLists x = new MileLists();
            Checks.list(x, 2, "a LXVI b");
            due("sign " + sign + " comes", x.habit(sign, 0, 3), 0);
            due("so much more", x.reading(0, 0, 66 + values[sign]), 3);
            due("sign " + sign + " goes", x.habit(0, sign, 4), 1);
            due("so much less", x.reading(0, 0, 66 - values[sign]), 4);
        }
        for (int truly = 1; truly <= 4; truly++) {
            for (int written = 1; written <= 4; written++) {
                if (truly != written) {
                    MileLists x = new MileLists();
                    Checks.list(x, 2, "a " + "IVXL".charAt(written - 1) + " b");
                    due("habit " + truly + " " + written, x.habit(truly, written, 5), 0);
                    due("the one for the other", x.reading(0, 0, values[truly]), 5);
                }
            }
        }
    }

    private void habitNumbers() {
        promise(8, "NONE: other numbers");
        int[][] wrong = {{0, 0, 1}, {1, 1, 1}, {2, 2, 1}, {3, 3, 1}, {4, 4, 1}, {5, 0, 1}, {0, 5, 1}, {5, 5, 1}, {-1, 0, 1},
            {0, -1, 1}, {1, 0, 0}, {1, 0, 21}, {1, 0, -1}, {Edges.LOW, 0, 1}, {0, Edges.LOW, 1}, {Edges.HIGH, 0, 1},
            {0, Edges.HIGH, 1}, {1, 0, Edges.LOW}, {1, 0, Edges.HIGH}};
        for (int[] w : wrong) {
            edges.refused("habit " + w[0] + " " + w[1] + " " + w[2], () -> Edges.room("velia"),
                x -> x.habit(w[0], w[1], w[2]), -1);
        }
        int[][] right = {{0, 1, 1}, {0, 4, 1}, {1, 0, 1}, {4, 0, 1}, {1, 4, 20}, {4, 1, 20}, {1, 0, 2}};
        for (int[] r : right) {
            due("habit " + r[0] + " " + r[1] + " " + r[2], Edges.room("").habit(r[0], r[1], r[2]), 2);
        }
        due("the tape is not read", countAfterHabit(), 5);
    }

    private static int countAfterHabit() {
        MileLists x = Edges.room("velia");
        x.habit(0, 1, 1);
        return x.count(5);
    }

    private void habitFull() {
        promise(8, "20 are there.");
        edges.refused("a 21st", () -> Edges.fullRoom("velia"), x -> x.habit(0, 1, 1), -1);
        edges.refused("a 21st like one of them", () -> Edges.fullRoom("velia"), x -> x.habit(1, 0, 1), -1);
        MileLists x = new MileLists();
        for (int i = 0; i < 19; i++) {
            x.habit(1, 0, 20);
        }
        due("the 20th", x.habit(1, 0, 19), 19);
        due("the 21st", x.habit(1, 0, 18), -1);
    }

    private void sound() {
        promise(9, "Two letters (0 to 25) are alike: true;");
        for (int a = 0; a < 26; a++) {
            MileLists x = new MileLists();
            Checks.list(x, 2, (char) ('a' + a) + " I xx");
            int b = (a + 13) % 26;
            String other = "" + (char) ('a' + b);
            due("unlike " + a + " " + b, Checks.apart(x, 0, 0, other), 3);
            due("sound " + a + " " + b, x.sound(a, b), true);
            due("alike " + a + " " + b, Checks.apart(x, 0, 0, other), 1);
        }
        due("first and last", new MileLists().sound(0, 25), true);
        due("last and first", new MileLists().sound(25, 0), true);
    }

    private void soundKnown() {
        promise(9, "false: they were");
        for (int[] pair : new int[][] {{8, 9}, {9, 8}, {8, 8}, {0, 0}, {25, 25}}) {
            edges.refused("sound " + pair[0] + " " + pair[1], () -> Edges.room("velia"),
                x -> x.sound(pair[0], pair[1]) ? 1 : 0, 0);
        }
        MileLists x = new MileLists();
        due("a pair", x.sound(3, 4), true);
        due("another", x.sound(5, 6), true);
        due("between them", x.sound(6, 4), true);
        for (int a = 3; a <= 6; a++) {
            for (int b = 3; b <= 6; b++) {
                due("they were: " + a + " " + b, x.sound(a, b), false);
            }
        }
        due("none of them", x.sound(2, 3), true);
        due("none of them either", x.sound(7, 3), true);
    }

    private void soundNoLetters() {
        promise(9, "no such letters.");
        for (int wrong : new int[] {-1, 26, -2, 27, Edges.LOW, Edges.HIGH}) {
            edges.refused("sound " + wrong + " 0", () -> Edges.room("velia"), x -> x.sound(wrong, 0) ? 1 : 0, 0);
            edges.refused("sound 25 " + wrong, () -> Edges.room("velia"), x -> x.sound(25, wrong) ? 1 : 0, 0);
            edges.refused("sound of both " + wrong, () -> Edges.room("velia"), x -> x.sound(wrong, wrong) ? 1 : 0, 0);
        }
        edges.refused("sound -1 26", () -> Edges.room("velia"), x -> x.sound(-1, 26) ? 1 : 0, 0);
    }

    private void costs() {
        promise(10, "LOST and MOVED are these.");
        int[][] right = {{0, 0}, {50, 50}, {0, 50}, {50, 0}, {10, 6}, {6, 10}, {1, 49}};
        MileLists x = new MileLists();
        Checks.list(x, 2, "a LLLLLL b");
        Checks.stone(x, 5, 1, 2, "a");
        for (int[] r : right) {
            due("costs " + r[0] + " " + r[1], x.costs(r[0], r[1]), true);
            due("lost", x.count(6), r[0]);
            due("moved", x.count(7), r[1]);
            due("best by them", x.best(0, 0), 2 * r[0] + r[1]);
            due("the same once more", x.costs(r[0], r[1]), true);
        }
    }

    private void costsRefused() {
        promise(10, "False: other numbers.");
        int[][] wrong = {{-1, 0}, {51, 0}, {0, -1}, {0, 51}, {-1, -1}, {51, 51}, {-1, 51}, {Edges.LOW, 0}, {Edges.HIGH, 0},
            {0, Edges.LOW}, {0, Edges.HIGH}};
        for (int[] w : wrong) {
            edges.refused("costs " + w[0] + " " + w[1], () -> Edges.room("velia"), x -> x.costs(w[0], w[1]) ? 1 : 0, 0);
        }
    }

    private void day() {
        promise(11, "So many DAYS (0 to 1000) go by: the DAY;");
        MileLists x = new MileLists();
        due("0 days", x.day(0), 0);
        due("1 day", x.day(1), 1);
        due("999 days", x.day(999), 1000);
        due("1000 days", x.day(1000), 2000);
        due("the day", x.count(4), 2000);
        due("0 days more", x.day(0), 2000);
    }

    private void dayRefused() {
        promise(11, "NONE: another n");
        for (int n : new int[] {-1, 1001, -2, 1002, -1000, Edges.LOW, Edges.HIGH, Edges.HIGH - 4, Edges.LOW + 5}) {
            edges.refused("day " + n, () -> Edges.room("velia"), x -> x.day(n), -1);
        }
    }

    /** A room so many days ahead of the last one. */
    private static MileLists nearTheLastDay(int days) {
        MileLists x = new MileLists();
        Checks.list(x, 2, "a LLLLLL b");
        for (int i = 0; i < 99; i++) {
            x.day(1000);
        }
        x.day(1000 - days);
        Checks.ruin(x, 0, "a");
        return x;
    }

    private void dayLast() {
        promise(11, "it would be above 100000.");
        due("just to it", nearTheLastDay(1000).day(1000), 100000);
        due("one day short of it", nearTheLastDay(1000).day(999), 99999);
        due("from 99999 on", nearTheLastDay(1).day(1), 100000);
        due("none from the last on", nearTheLastDay(0).day(0), 100000);
        int[][] wrong = {{999, 1000}, {1, 2}, {1, 1000}, {0, 1}, {0, 1000}, {0, -1}, {0, Edges.HIGH}};
        for (int[] w : wrong) {
            edges.refused(w[1] + " with " + w[0] + " left", () -> nearTheLastDay(w[0]), x -> x.day(w[1]), -1);
        }
        MileLists x = nearTheLastDay(0);
        due("known on the last day", x.best(0, 100000), 10);
        due("not on the day ahead", x.best(0, 99999), 20);
        due("no day behind it", x.best(0, 100001), -1);
        due("found on", x.count(30), 100000);
    }
}
