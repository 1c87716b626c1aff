/** Each promise of the document: ordinary calls, its edges, wrong inputs. */
public final class PromiseTest {
    private static final int LOW = Integer.MIN_VALUE;
    private static final int HIGH = Integer.MAX_VALUE;
    private static final Checks CHECKS = new Checks();

    public static void main(String[] args) {
        newObject();
        feed();
        end();
        listTexts();
        listRefused();
        place();
        ruin();
        stone();
        habit();
        sound();
        costs();
        day();
        apart();
        readingByHabits();
        readingEdges();
        best();
        bestWithStones();
        bestAsKnownThen();
        at();
        span();
        rivals();
        manyRivals();
        shared();
        nothingShared();
        of();
        letter();
        count();
        manyCalls();
        CHECKS.finish();
    }

    private static void due(String call, long got, long want) {
        CHECKS.due(call, got, want);
    }

    private static void due(String call, boolean got, boolean want) {
        CHECKS.due(call, got, want);
    }

    private static void newObject() {
        CHECKS.part("1 new object");
        MileLists x = new MileLists();
        int[] want = {0, 0, 0, 0, 0, 0, 10, 6};
        for (int what = 0; what < want.length; what++) {
            due("count " + what, x.count(what), want[what]);
        }
        due("place", x.place(), -1);
        due("NONE", MileLists.NONE, -1);
        due("no list", x.best(0, 0), -1);
        due("no ruin", x.count(10), -1);
        due("no ruin's day", x.count(30), -1);
        due("end 0 of an empty tape", x.end(0), 0);
        due("end 1 of an empty tape", x.end(1), -1);
        MileLists y = new MileLists();
        y.habit(1, 2, 3);
        Checks.ruin(y, 5, "a");
        due("another object's habits", x.count(3), 0);
        due("another object's ruins", x.count(1), 0);
    }

    private static void feed() {
        CHECKS.part("2 feed");
        MileLists x = new MileLists();
        for (int i = 1; i <= 10; i++) {
            due("feed " + i, x.feed(0, 0, 0, 0, 0), 20 * i);
        }
        due("feed 11", x.feed(0, 0, 0, 0, 0), -1);
        due("tape then", x.count(5), 200);
        due("end 181", x.end(181), 181);
        due("feed on 181", x.feed(0, 0, 0, 0, 0), -1);
        due("end 180", x.end(180), 180);
        due("feed on 180", x.feed(0, 0, 0, 0, 0), 200);
        x = new MileLists();
        // the highest byte of each number comes first, the numbers in turn
        due("feed letters", x.feed(0x61204920, 0x62204920, 0x63204920, 0x64204920, 0x65202020), 20);
        due("list of them", x.list(2), 0);
        for (int i = 0; i < 5; i++) {
            due("letter " + i, x.letter(0, i, 0), 'a' + i);
        }
        x = new MileLists();
        x.feed(0xFF616161, -1, LOW, HIGH, 0);
        due("a high byte is no letter", x.list(2), -2);
        due("at its place", x.place(), 0);
    }

    private static void end() {
        CHECKS.part("3 end");
        MileLists x = new MileLists();
        x.feed(0x61626364, 0, 0, 0, 0);
        due("21 of 20", x.end(21), -1);
        due("below 0", x.end(-1), -1);
        due("least", x.end(LOW), -1);
        due("greatest", x.end(HIGH), -1);
        due("all stays", x.count(5), 20);
        due("20 of 20", x.end(20), 20);
        due("3", x.end(3), 3);
        due("4 of 3", x.end(4), -1);
        due("the first stay", x.ruin(7), 0);
        Checks.list(x, 2, "abc I zzzzzz");
        due("they are abc", x.best(0, 0), 10);
        due("the ruin is abc", x.at(0, 0, 0), 7);
        x.feed(0, 0, 0, 0, 0);
        due("0", x.end(0), 0);
        due("empty", x.count(5), 0);
    }

    private static void fault(String text, int want, int wantPlace) {
        MileLists x = new MileLists();
        due("list of '" + text + "'", Checks.list(x, 2, text), want);
        due("place in '" + text + "'", x.place(), wantPlace);
        due("lists behind '" + text + "'", x.count(0), want >= 0 ? 1 : 0);
        due("tape behind '" + text + "'", x.count(5), 0);
    }

    private static void listTexts() {
        CHECKS.part("4 list");
        fault("a I b", 0, -1);
        fault("aIb", 0, -1);
        fault("\n a\nI \n b  ", 0, -1);
        fault("abcdefgh LLLLLLLL ijklmnop", 0, -1);
        fault("aLXVIbIc", 0, -1);
        fault("aIbIcIdIeIfIgIhIiIj", 0, -1);
        fault("", -2, 0);
        fault("   ", -2, 3);
        fault("a", -2, 1);
        fault("a  ", -2, 3);
        fault("a I", -2, 3);
        fault("a I ", -2, 4);
        fault("a I b X", -2, 7);
        fault("I a", -2, 0);
        fault(" a b", -2, 3);
        fault("a I I b", -2, 4);
        fault("a IX b", -2, 2);
        fault("a XIV b", -2, 2);
        fault("a LLLLLLLLL b", -2, 2);
        fault("abcdefghi I b", -2, 0);
        fault("a I bcdefghij", -2, 4);
        fault("a I b?", -2, 5);
        fault("a ? b", -2, 2);
        fault("a C b", -2, 2);
        fault("a i b", -2, 2);
        fault("a\tI b", -2, 1);
        fault("a\rI b", -2, 1);
        fault("a I `", -2, 4);
        fault("a I {", -2, 4);
        fault("a I \u00e9", -2, 4);
        fault("a I b\u0000", -2, 5);
        fault("a I a", -4, 4);
        fault("a I b I a ?", -4, 8);
        fault("ab I abc I ab", -4, 11);
        fault("a I a I IX", -4, 4);
        fault("aIbIcIdIeIfIgIhIiIjIk", -3, 20);
        fault("aIbIcIdIeIfIgIhIiIjIa", -3, 20);
        fault("aIbIcIdIeIfIgIhIiIjI", -2, 20);
        fault("aIbIcIdIeIfIgIhIiIjIkkkkkkkkk", -2, 20);
        fault("aIbIcIdIeIfIgIhIiIjIV", -2, 19);
        fault("aIbIcIdIeIfIgIhIiIaIk", -4, 18);
        fault("a I b" + " ".repeat(195), 0, -1);
        fault("a I " + " ".repeat(196), -2, 200);
    }

    private static void listRefused() {
        CHECKS.part("4 list refused");
        MileLists x = new MileLists();
        Checks.type(x, "a I b");
        for (int unit : new int[] {1, 4, 0, -2, LOW, HIGH}) {
            due("unit " + unit, x.list(unit), -1);
        }
        due("the tape stays", x.count(5), 5);
        due("unit 3", x.list(3), 0);
        due("its unit", x.of(0, 0), 3);
        due("a fault between", Checks.list(x, 2, "a I"), -2);
        for (int i = 1; i < 4; i++) {
            due("list " + i, Checks.list(x, 2, "a I b"), i);
        }
        due("a fifth", Checks.list(x, 2, "a I ?"), -1);
        due("the tape stays too", x.count(5), 5);
        due("four", x.count(0), 4);
    }

    private static void place() {
        CHECKS.part("5 place");
        MileLists x = new MileLists();
        Checks.list(x, 2, "a I ?");
        due("of the fault", x.place(), 4);
        due("asked twice", x.place(), 4);
        Checks.type(x, "a I b");
        x.list(4);
        due("behind a NONE", x.place(), 4);
        x.list(2);
        due("behind a good one", x.place(), -1);
        Checks.list(x, 2, "a");
        due("behind another fault", x.place(), 1);
        for (int i = 0; i < 3; i++) {
            Checks.list(x, 2, "a I b");
        }
        Checks.list(x, 2, "a I I");
        due("behind a fifth", x.place(), -1);
    }

    private static void ruin() {
        CHECKS.part("6 ruin");
        MileLists x = new MileLists();
        due("first", Checks.ruin(x, 0, "a"), 0);
        due("tape empty", x.count(5), 0);
        due("one is there", Checks.ruin(x, 0, "b"), -1);
        due("tape empty when refused", x.count(5), 0);
        for (int at : new int[] {-1, 601, LOW, HIGH}) {
            due("place " + at, Checks.ruin(x, at, "b"), -1);
            due("tape empty then", x.count(5), 0);
        }
        for (String name : new String[] {"", "abcdefghi", "a b", " a", "a ", "A", "I", "a1", "`", "{"}) {
            due("name '" + name + "'", Checks.ruin(x, 1, name), -1);
            due("tape empty behind it", x.count(5), 0);
        }
        due("still one", x.count(1), 1);
        due("last place", Checks.ruin(x, 600, "abcdefgh"), 1);
        for (int i = 2; i < 12; i++) {
            due("number " + i, Checks.ruin(x, i, "az"), i);
        }
        due("a thirteenth", Checks.ruin(x, 50, "a"), -1);
        due("twelve", x.count(1), 12);
        due("tape empty behind twelve", x.count(5), 0);
    }

    private static void stone() {
        CHECKS.part("7 stone");
        MileLists x = new MileLists();
        due("least", Checks.stone(x, 0, 1, 2, "a"), 0);
        due("tape empty", x.count(5), 0);
        due("greatest", Checks.stone(x, 600, 200, 3, "abcdefgh"), 1);
        due("one more there", Checks.stone(x, 600, 200, 3, "abcdefgh"), 2);
        int[][] wrong = {{-1, 1, 2}, {601, 1, 2}, {0, 0, 2}, {0, 201, 2}, {0, 1, 1}, {0, 1, 4}, {LOW, 1, 2},
            {HIGH, 1, 2}, {0, LOW, 2}, {0, HIGH, 2}, {0, 1, LOW}, {0, 1, HIGH}};
        for (int[] w : wrong) {
            due("stone " + w[0] + " " + w[1] + " " + w[2], Checks.stone(x, w[0], w[1], w[2], "a"), -1);
            due("tape empty behind it", x.count(5), 0);
        }
        due("no name", Checks.stone(x, 0, 1, 2, ""), -1);
        due("too long", Checks.stone(x, 0, 1, 2, "abcdefghi"), -1);
        due("a sign", Checks.stone(x, 0, 1, 2, "aX"), -1);
        due("tape empty behind no name", x.count(5), 0);
        due("three", x.count(2), 3);
        for (int i = 3; i < 12; i++) {
            due("number " + i, Checks.stone(x, 5, 5, 2, "b"), i);
        }
        due("a thirteenth", Checks.stone(x, 5, 5, 2, "b"), -1);
        due("twelve", x.count(2), 12);
    }

    private static void habit() {
        CHECKS.part("8 habit");
        MileLists x = new MileLists();
        int[][] wrong = {{0, 0, 1}, {1, 1, 1}, {4, 4, 1}, {5, 0, 1}, {0, 5, 1}, {-1, 1, 1}, {1, -1, 1}, {1, 2, 0},
            {1, 2, 21}, {LOW, 1, 1}, {1, HIGH, 1}, {1, 2, LOW}, {1, 2, HIGH}};
        for (int[] w : wrong) {
            due("habit " + w[0] + " " + w[1] + " " + w[2], x.habit(w[0], w[1], w[2]), -1);
        }
        due("none", x.count(3), 0);
        due("true none", x.habit(0, 4, 1), 0);
        due("written none", x.habit(4, 0, 20), 1);
        due("the same again", x.habit(4, 0, 20), 2);
        for (int i = 3; i < 20; i++) {
            due("number " + i, x.habit(1, 2, 5), i);
        }
        due("a 21st", x.habit(1, 2, 5), -1);
        due("20", x.count(3), 20);
    }

    private static void sound() {
        CHECKS.part("9 sound");
        MileLists x = new MileLists();
        due("itself", x.sound(3, 3), false);
        due("0 and 25", x.sound(0, 25), true);
        due("again", x.sound(0, 25), false);
        due("turned", x.sound(25, 0), false);
        due("25 and 7", x.sound(25, 7), true);
        due("by others", x.sound(0, 7), false);
        due("8 and 9", x.sound(8, 9), true);
        due("two groups", x.sound(9, 0), true);
        due("by all of them", x.sound(8, 7), false);
        for (int wrong : new int[] {-1, 26, LOW, HIGH}) {
            due("sound " + wrong + " 1", x.sound(wrong, 1), false);
            due("sound 1 " + wrong, x.sound(1, wrong), false);
        }
        due("equal and none", x.sound(26, 26), false);
        x = new MileLists();
        due("1 and 0", x.sound(1, 0), true);
        due("1 and 0 again", x.sound(1, 0), false);
        due("2 and 0", x.sound(2, 0), true);
        due("1 and 2", x.sound(1, 2), false);
    }

    private static void costs() {
        CHECKS.part("10 costs");
        MileLists x = new MileLists();
        int[][] wrong = {{-1, 0}, {51, 0}, {0, -1}, {0, 51}, {LOW, 0}, {0, LOW}, {HIGH, 0}, {0, HIGH}};
        for (int[] w : wrong) {
            due("costs " + w[0] + " " + w[1], x.costs(w[0], w[1]), false);
            due("lost stays", x.count(6), 10);
            due("moved stays", x.count(7), 6);
        }
        due("greatest", x.costs(50, 49), true);
        due("lost", x.count(6), 50);
        due("moved", x.count(7), 49);
        due("the same again", x.costs(50, 49), true);
        due("other greatest", x.costs(49, 50), true);
        due("moved then", x.count(7), 50);
        Checks.list(x, 2, "a I b");
        due("best goes by it", x.best(0, 0), 98);
        due("least", x.costs(0, 0), true);
        due("best then", x.best(0, 0), 0);
    }

    private static void day() {
        CHECKS.part("11 day");
        MileLists x = new MileLists();
        due("0", x.day(0), 0);
        due("1", x.day(1), 1);
        for (int n : new int[] {-1, 1001, LOW, HIGH}) {
            due("day " + n, x.day(n), -1);
        }
        due("1000", x.day(1000), 1001);
        for (int i = 2; i < 100; i++) {
            x.day(1000);
        }
        due("the day", x.count(4), 99001);
        due("1000 too many", x.day(1000), -1);
        due("to the last", x.day(999), 100000);
        due("1 too many", x.day(1), -1);
        due("0 at the last", x.day(0), 100000);
        due("ruin of the last day", Checks.ruin(x, 5, "a"), 0);
        due("its day", x.count(30), 100000);
    }

    private static void apart() {
        CHECKS.part("12 apart");
        MileLists x = new MileLists();
        Checks.list(x, 2, "roma I ostia I abcdefgh");
        due("itself", Checks.apart(x, 0, 0, "roma"), 0);
        due("unlike letters", Checks.apart(x, 0, 0, "toma"), 3);
        due("one goes", Checks.apart(x, 0, 0, "rroma"), 2);
        due("one comes", Checks.apart(x, 0, 0, "rma"), 2);
        due("goes and comes", Checks.apart(x, 0, 0, "omar"), 4);
        due("all other", Checks.apart(x, 0, 2, "ijklmnop"), 24);
        due("short and long", Checks.apart(x, 0, 2, "z"), 17);
        due("moved by one", Checks.apart(x, 0, 2, "habcdefg"), 4);
        x.sound('r' - 'a', 't' - 'a');
        due("alike", Checks.apart(x, 0, 0, "toma"), 1);
        x.sound('t' - 'a', 'd' - 'a');
        due("alike by another", Checks.apart(x, 0, 0, "doma"), 1);
        due("alike and unlike", Checks.apart(x, 0, 0, "dxma"), 4);
        due("the other station", Checks.apart(x, 0, 1, "osria"), 1);
        due("no list 1", Checks.apart(x, 1, 0, "roma"), -1);
        due("tape empty then", x.count(5), 0);
        due("no list -1", Checks.apart(x, -1, 0, "roma"), -1);
        due("no station 3", Checks.apart(x, 0, 3, "roma"), -1);
        due("no station -1", Checks.apart(x, 0, -1, "roma"), -1);
        due("far off", Checks.apart(x, LOW, HIGH, "roma"), -1);
        due("empty", Checks.apart(x, 0, 0, ""), -1);
        due("too long", Checks.apart(x, 0, 0, "romaromar"), -1);
        due("two words", Checks.apart(x, 0, 0, "ro ma"), -1);
        due("tape empty behind no name", x.count(5), 0);
    }

    private static void readingByHabits() {
        CHECKS.part("13 reading");
        MileLists x = Checks.withList("a XII b VII c LXV d", 3, 1, 4);
        due("itself", x.reading(0, 0, 12), 0);
        due("the first I an X", x.reading(0, 0, 21), 4);
        due("not two", x.reading(0, 0, 30), -1);
        due("no X behind a V", x.reading(0, 1, 16), -1);
        x = Checks.withList("a LXV b LXI c LXX d", 1, 3, 7);
        due("no I ahead of a V", x.reading(0, 0, 56), -1);
        due("I ahead of I", x.reading(0, 1, 52), 7);
        due("the last X an I", x.reading(0, 2, 61), 7);
        x = Checks.withList("a XI b I c VV d", 0, 1, 3, 0, 2, 5);
        due("an I goes", x.reading(0, 0, 10), 3);
        due("one at least", x.reading(0, 1, 0), -1);
        due("a V goes", x.reading(0, 2, 5), 5);
        due("not both", x.reading(0, 2, 0), -1);
        x = Checks.withList("a XI b LLLLLLLL c", 2, 0, 9, 4, 0, 2);
        due("a V comes", x.reading(0, 0, 16), 9);
        due("an L comes", x.reading(0, 0, 61), 2);
        due("once alone", x.reading(0, 0, 21), -1);
        due("nine signs", x.reading(0, 1, 450), 2);
        due("nine signs with a V", x.reading(0, 1, 405), 9);
        x = Checks.withList("a II b", 1, 0, 9, 1, 0, 4, 1, 0, 6);
        due("the least of three", x.reading(0, 0, 3), 4);
        x = Checks.withList("a XV b", 3, 2, 8, 2, 0, 5);
        due("one value by two ways", x.reading(0, 0, 20), 5);
        x = Checks.withList("a X b XI c", 2, 3, 4, 0, 3, 6);
        due("the only sign", x.reading(0, 0, 5), 4);
        due("the first sign", x.reading(0, 1, 6), 4);
        due("the first sign goes", x.reading(0, 1, 1), 6);
        x = Checks.withList("a LLLLLLLI b XXXXXXXX c", 2, 1, 4, 1, 3, 5);
        due("the eighth sign a greater one", x.reading(0, 0, 355), 4);
        due("the eighth sign a lesser one", x.reading(0, 1, 71), 5);
        // what a faulty text left behind is not read
        x = new MileLists();
        Checks.list(x, 2, "a LLLLLLLL ?");
        Checks.list(x, 2, "a XI b");
        x.habit(2, 1, 7);
        due("nothing of an older text", x.reading(0, 0, 15), 7);
    }

    private static void readingEdges() {
        CHECKS.part("13 reading refused");
        MileLists x = Checks.withList("a XII b", 1, 0, 4);
        due("no numeral behind the last", x.reading(0, 1, 12), -1);
        due("no station 2", x.reading(0, 2, 12), -1);
        due("no station -1", x.reading(0, -1, 12), -1);
        due("no list 1", x.reading(1, 0, 12), -1);
        due("no list -1", x.reading(-1, 0, 12), -1);
        due("far off", x.reading(HIGH, LOW, 12), -1);
        for (int v : new int[] {0, -1, 11, 14, LOW, HIGH}) {
            due("value " + v, x.reading(0, 0, v), -1);
        }
        due("13", x.reading(0, 0, 13), 4);
        x = Checks.withList("aIbIcIdIeIfIgIhIiIIIj");
        due("the ninth", x.reading(0, 8, 3), 0);
        due("no tenth", x.reading(0, 9, 3), -1);
    }

    private static void best() {
        CHECKS.part("14 best");
        MileLists x = Checks.withList("roma XII ostia V portus");
        due("all lost", x.best(0, 0), 30);
        Checks.ruin(x, 100, "roma");
        due("one found", x.best(0, 0), 20);
        Checks.ruin(x, 124, "ostja");
        due("two, one not quite", x.best(0, 0), 13);
        x.sound('i' - 'a', 'j' - 'a');
        due("alike then", x.best(0, 0), 11);
        Checks.ruin(x, 136, "portus");
        due("portus too far", x.best(0, 0), 11);
        x.habit(1, 0, 9);
        due("a mile more, too dear", x.best(0, 0), 10);
        x.habit(1, 0, 2);
        due("a mile more", x.best(0, 0), 3);
        for (int[] wrong : new int[][] {{1, 0}, {-1, 0}, {0, 1}, {0, -1}, {LOW, 0}, {HIGH, 0}, {0, LOW}, {0, HIGH}}) {
            due("best " + wrong[0] + " " + wrong[1], x.best(wrong[0], wrong[1]), -1);
        }
        x = Checks.withList("a LLLLLL b");
        due("just as long as the road", x.best(0, 0), 20);
        x = Checks.withList("a LLLLLLI b");
        due("no placing", x.best(0, 0), -2);
        due("no such day all the same", x.best(0, 1), -1);
        x.habit(0, 1, 20);
        due("one by a habit", x.best(0, 0), 40);
        x = new MileLists();
        Checks.list(x, 3, "a LLLL b");
        due("with unit 3", x.best(0, 0), 20);
        Checks.list(x, 3, "a LLLLI b");
        due("too long with unit 3", x.best(1, 0), -2);
        // a ruin of quite another name may cost more than to be lost
        x = Checks.withList("abcdefgh LLLLLL b");
        Checks.ruin(x, 0, "ijklmnop");
        due("a wrong ruin is not lost", x.best(0, 0), 34);
    }

    private static void bestWithStones() {
        CHECKS.part("14 best with stones");
        MileLists x = Checks.withList("a LLLLLL b");
        Checks.stone(x, 10, 5, 2, "a");
        due("behind it", x.best(0, 0), 20);
        Checks.stone(x, 10, 4, 2, "a");
        due("another says otherwise", x.best(0, 0), 26);
        Checks.stone(x, 9, 3, 3, "a");
        due("in its own unit", x.best(0, 0), 26);
        Checks.stone(x, 570, 10, 3, "b");
        due("ahead of it", x.best(0, 0), 26);
        Checks.stone(x, 600, 1, 2, "b");
        due("at b itself", x.best(0, 0), 32);
        Checks.stone(x, 1, 1, 2, "c");
        Checks.stone(x, 1, 1, 2, "aa");
        due("of other names", x.best(0, 0), 32);
        x.costs(10, 50);
        due("moved counts for each", x.best(0, 0), 120);
        Checks.ruin(x, 0, "a");
        due("ruin and stones", x.best(0, 0), 110);
        x = Checks.withList("a I b");
        Checks.stone(x, 0, 200, 3, "b");
        due("stones draw a list", x.best(0, 0), 20);
        due("to their place", x.at(0, 0, 1), 600);
    }

    private static void bestAsKnownThen() {
        CHECKS.part("14 best on a day");
        MileLists x = Checks.withList("a I b");
        x.day(3);
        Checks.ruin(x, 100, "a");
        Checks.stone(x, 100, 1, 2, "b");
        x.day(2);
        Checks.ruin(x, 102, "b");
        due("day 0", x.best(0, 0), 20);
        due("day 2", x.best(0, 2), 20);
        due("day 3", x.best(0, 3), 10);
        due("day 4", x.best(0, 4), 10);
        due("day 5", x.best(0, 5), 0);
        due("day 6", x.best(0, 6), -1);
        due("place on day 2", x.at(0, 2, 0), 0);
        due("place on day 3", x.at(0, 3, 0), 100);
        due("rivals on day 2", x.rivals(0, 2, 0), 599);
        due("rivals on day 5", x.rivals(0, 5, 0), 1);
        due("span on day 2", x.span(0, 2, 0, 0, 1), 598);
        due("span on day 5", x.span(0, 5, 0, 0, 1), 100);
    }

    private static void at() {
        CHECKS.part("15 at");
        MileLists x = Checks.withList("a II b II c");
        for (int s = 0; s < 3; s++) {
            due("the first row, station " + s, x.at(0, 0, s), 4 * s);
        }
        x.costs(0, 6);
        x.habit(0, 1, 1);
        x.habit(1, 0, 1);
        Checks.stone(x, 20, 5, 2, "a");
        Checks.stone(x, 100, 1, 2, "c");
        // c at 98 or 102, or a at 10 or 30: each needs one to be moved, the least place of a comes first
        due("one is moved", x.best(0, 0), 6);
        due("a", x.at(0, 0, 0), 10);
        due("b", x.at(0, 0, 1), 14);
        due("c", x.at(0, 0, 2), 18);
        Checks.stone(x, 16, 1, 2, "c");
        due("c asks for 18", x.best(0, 0), 6);
        Checks.stone(x, 16, 2, 2, "c");
        due("c stays", x.at(0, 0, 2), 18);
        // two ways to the same end: the one with the lesser second place
        x = Checks.withList("a II b II c", 1, 0, 1);
        Checks.ruin(x, 0, "a");
        Checks.ruin(x, 10, "c");
        due("one of two is a mile longer", x.best(0, 0), 11);
        due("the later one", x.at(0, 0, 1), 4);
        due("c there", x.at(0, 0, 2), 10);
        x = Checks.withList("a II b II c", 0, 1, 1);
        Checks.ruin(x, 0, "a");
        Checks.ruin(x, 6, "c");
        due("the earlier one is shorter", x.at(0, 0, 1), 2);
        int[][] wrong = {{1, 0, 0}, {-1, 0, 0}, {0, 1, 0}, {0, -1, 0}, {0, 0, 3}, {0, 0, -1}, {HIGH, LOW, HIGH}, {0, 0, LOW}};
        for (int[] w : wrong) {
            due("at " + w[0] + " " + w[1] + " " + w[2], x.at(w[0], w[1], w[2]), -1);
        }
        x = Checks.withList("a LLLLLLI b");
        due("no placing", x.at(0, 0, 0), -1);
    }

    /** One ruin, for the middle station, and habits for a mile more (2) and a mile less (3). */
    private static MileLists aroundOneRuin() {
        MileLists x = Checks.withList("aaaaa II bbbbb II ccccc", 1, 0, 2, 0, 1, 3);
        Checks.ruin(x, 100, "bbbbb");
        return x;
    }

    private static void span() {
        CHECKS.part("16 span");
        MileLists x = aroundOneRuin();
        // d, then the least and the greatest place of each of the three stations
        int[][] want = {{0, 96, 96, 100, 100, 104, 104}, {1, 96, 96, 100, 100, 104, 104},
            {2, 94, 96, 100, 100, 104, 106}, {3, 94, 98, 100, 100, 102, 106}, {9, 94, 98, 100, 100, 102, 106},
            {10, 0, 592, 4, 596, 8, 600}, {13, 0, 594, 2, 598, 6, 600}, {16, 0, 596, 2, 598, 4, 600},
            {20, 0, 596, 2, 598, 4, 600}};
        for (int[] w : want) {
            for (int i = 0; i < 6; i++) {
                due("span within " + w[0] + " of " + i / 2 + ", " + i % 2, x.span(0, 0, w[0], i / 2, i % 2), w[1 + i]);
            }
        }
        int[][] wrong = {{1, 0, 0, 0, 0}, {-1, 0, 0, 0, 0}, {0, 1, 0, 0, 0}, {0, -1, 0, 0, 0}, {0, 0, 21, 0, 0},
            {0, 0, -1, 0, 0}, {0, 0, 0, 3, 0}, {0, 0, 0, -1, 0}, {0, 0, 0, 0, 2}, {0, 0, 0, 0, -1},
            {HIGH, 0, 0, 0, 0}, {0, HIGH, 0, 0, 0}, {0, 0, HIGH, 0, 0}, {0, 0, 0, HIGH, 0}, {0, 0, 0, 0, HIGH},
            {LOW, 0, 0, 0, 0}, {0, LOW, 0, 0, 0}, {0, 0, LOW, 0, 0}, {0, 0, 0, LOW, 0}, {0, 0, 0, 0, LOW}};
        for (int[] w : wrong) {
            due("span " + java.util.Arrays.toString(w), x.span(w[0], w[1], w[2], w[3], w[4]), -1);
        }
        x = Checks.withList("a LLLLLLI b");
        due("no placing", x.span(0, 0, 20, 0, 0), -1);
        due("no placing, the greatest", x.span(0, 0, 20, 1, 1), -1);
        due("none but place 0", Checks.withList("a LLLLLL b").span(0, 0, 20, 0, 1), 0);
        x.habit(0, 1, 20);
        due("one by a habit", x.span(0, 0, 0, 1, 1), 600);
    }

    private static void rivals() {
        CHECKS.part("17 rivals");
        MileLists x = aroundOneRuin();
        int[][] want = {{0, 1}, {1, 1}, {2, 3}, {3, 5}, {4, 6}, {5, 8}, {6, 9}, {9, 9}, {10, 599}};
        for (int[] w : want) {
            due("within " + w[0], x.rivals(0, 0, w[0]), w[1]);
        }
        int[][] wrong = {{1, 0, 0}, {-1, 0, 0}, {0, 1, 0}, {0, -1, 0}, {0, 0, 21}, {0, 0, -1}, {LOW, 0, 0},
            {HIGH, 0, 0}, {0, LOW, 0}, {0, HIGH, 0}, {0, 0, LOW}, {0, 0, HIGH}};
        for (int[] w : wrong) {
            due("rivals " + w[0] + " " + w[1] + " " + w[2], x.rivals(w[0], w[1], w[2]), -1);
        }
        x = Checks.withList("a LLLLLLI b");
        due("no placing", x.rivals(0, 0, 0), -1);
        // two habits for one value are one placing, by the lesser cost
        x = Checks.withList("a I b", 1, 0, 3, 1, 0, 5);
        due("one value twice", x.rivals(0, 0, 2), 599);
        due("from the lesser cost on", x.rivals(0, 0, 3), 599 + 597);
        due("not twice", x.rivals(0, 0, 20), 599 + 597);
        x = Checks.withList("a I b", 1, 0, 20, 3, 0, 19);
        due("within 18", x.rivals(0, 0, 18), 599);
        due("within 19", x.rivals(0, 0, 19), 599 + 579);
        due("within 20", x.rivals(0, 0, 20), 599 + 597 + 579);
        // a ruin makes good for just what the longer way costs: two of the least
        x = Checks.withList("aaaaa I bbbbb I ccccc", 2, 0, 10);
        Checks.ruin(x, 0, "aaaaa");
        Checks.ruin(x, 14, "ccccc");
        due("a tie by costs", x.best(0, 0), 20);
        due("both ways to it, and the short one", x.rivals(0, 0, 0), 4);
    }

    private static void manyRivals() {
        CHECKS.part("17 many rivals");
        MileLists x = Checks.withList("aIbIcIdIeIfIgIhIiIj", 1, 0, 1, 2, 0, 1, 3, 0, 1);
        x.costs(0, 0);
        due("within 0", x.rivals(0, 0, 0), 583);
        due("within 1", x.rivals(0, 0, 1), 16036);
        due("within 2", x.rivals(0, 0, 2), 198016);
        due("within 3, more than a million", x.rivals(0, 0, 3), 1000000);
        due("within 20", x.rivals(0, 0, 20), 1000000);
        due("few again", x.rivals(0, 0, 1), 16036);
    }

    private static void shared() {
        CHECKS.part("18 shared");
        MileLists x = new MileLists();
        Checks.list(x, 2, "roma XII ostia V portus");
        Checks.list(x, 2, "velia I roma XII ostia V portus");
        Checks.list(x, 2, "roma XII ostia VI portus");
        Checks.list(x, 2, "roma XIII ostia V alba");
        x.habit(1, 0, 2);
        x.day(1);
        Checks.ruin(x, 100, "roma");
        Checks.ruin(x, 126, "ostia");
        Checks.ruin(x, 138, "portus");
        due("two steps", x.shared(0, 1, 1), 2);
        due("turned", x.shared(1, 0, 1), 2);
        due("one is right in the other", x.shared(0, 2, 1), 1);
        due("other signs, other names", x.shared(0, 3, 1), 0);
        due("before the ruins", x.shared(0, 1, 0), 0);
        due("one list", x.shared(0, 0, 1), -1);
        int[][] wrong = {{0, 4, 1}, {4, 0, 1}, {0, -1, 1}, {-1, 0, 1}, {-1, -1, 1}, {0, 1, 2}, {0, 1, -1},
            {LOW, HIGH, 0}, {0, HIGH, 0}, {0, 1, LOW}, {0, 1, HIGH}};
        for (int[] w : wrong) {
            due("shared " + w[0] + " " + w[1] + " " + w[2], x.shared(w[0], w[1], w[2]), -1);
        }
        x = new MileLists();
        Checks.list(x, 2, "roma XII ostia");
        Checks.list(x, 3, "roma XII ostia");
        Checks.list(x, 2, "roma XII ostia LLLLLLLL portus");
        x.habit(1, 0, 2);
        x.habit(0, 1, 2);
        Checks.ruin(x, 100, "roma");
        Checks.ruin(x, 126, "ostia");
        Checks.ruin(x, 133, "ostia");
        due("13 of the one unit", x.at(0, 0, 1), 126);
        due("11 of the other", x.at(1, 0, 1), 133);
        due("other values, other units", x.shared(0, 1, 0), 1);
        due("one has no placing", x.shared(0, 2, 0), 0);
        due("the other has none", x.shared(2, 1, 0), 0);
    }

    /** Lists that all read their one numeral otherwise, but share none of it. */
    private static void notShared(String first, String second, int... ostia) {
        MileLists x = new MileLists();
        Checks.list(x, 2, first);
        Checks.list(x, 2, second);
        x.costs(50, 6);
        x.habit(1, 0, 2);
        x.habit(0, 1, 3);
        Checks.ruin(x, 100, "roma");
        Checks.ruin(x, 104, "velia");
        Checks.ruin(x, 122, "portus");
        for (int at : ostia) {
            Checks.ruin(x, at, "ostia");
        }
        due(first + " by a habit", x.best(0, 0) >= 2 && x.best(0, 0) <= 3, true);
        due(second + " by a habit", x.best(1, 0) >= 2 && x.best(1, 0) <= 3, true);
        due(first + " and " + second, x.shared(0, 1, 0), 0);
        due(second + " and " + first, x.shared(1, 0, 0), 0);
    }

    private static void nothingShared() {
        CHECKS.part("18 nothing shared");
        notShared("roma XII ostia", "roma XI ostia", 126, 120);
        notShared("roma XI ostia", "roma VI ostia", 120, 114);
        notShared("roma XI ostia", "roma XV ostia", 120, 132);
        notShared("roma XII ostia", "roma XII portus", 126);
        notShared("roma XII ostia", "velia XII ostia", 126);
    }

    private static void of() {
        CHECKS.part("19 of");
        MileLists x = new MileLists();
        due("no list yet", Checks.ofThrows(x, 0, 0), 1);
        Checks.list(x, 3, "roma LXVI ostia II b");
        Checks.list(x, 2, "aIbIIcIIIdIIIIeVfVIgVIIhVIIIiXjjjjjjjj");
        due("unit", x.of(0, 0), 3);
        due("unit of the other", x.of(1, 0), 2);
        due("stations", x.of(0, 1), 3);
        due("ten stations", x.of(1, 1), 10);
        due("value 0", x.of(0, 10), 66);
        due("value 1", x.of(0, 11), 2);
        due("letters 0", x.of(0, 20), 4);
        due("letters 1", x.of(0, 21), 5);
        due("letters 2", x.of(0, 22), 1);
        for (int i = 0; i < 8; i++) {
            due("value " + i, x.of(1, 10 + i), i + 1);
        }
        due("value 8", x.of(1, 18), 10);
        due("letters 9", x.of(1, 29), 8);
        for (int what : new int[] {2, 9, 12, 13, 19, 23, 30, -1, LOW, HIGH, LOW + 10, LOW + 20}) {
            due("what " + what + " throws", Checks.ofThrows(x, 0, what), 1);
        }
        for (int what : new int[] {19, 30}) {
            due("what " + what + " of ten throws", Checks.ofThrows(x, 1, what), 1);
        }
        for (int list : new int[] {2, -1, LOW, HIGH}) {
            due("list " + list + " throws", Checks.ofThrows(x, list, 0), 1);
        }
        due("nothing thrown away", x.of(0, 0), 3);
    }

    private static void letter() {
        CHECKS.part("20 letter");
        MileLists x = new MileLists();
        due("no list yet", x.letter(0, 0, 0), -1);
        Checks.list(x, 2, "az I abcdefgh");
        due("first", x.letter(0, 0, 0), 'a');
        due("second", x.letter(0, 0, 1), 'z');
        due("no third", x.letter(0, 0, 2), -1);
        due("eighth", x.letter(0, 1, 7), 'h');
        due("no ninth", x.letter(0, 1, 8), -1);
        int[][] wrong = {{0, 0, -1}, {0, 2, 0}, {0, -1, 0}, {1, 0, 0}, {-1, 0, 0}, {LOW, 0, 0}, {HIGH, 0, 0},
            {0, LOW, 0}, {0, HIGH, 0}, {0, 0, LOW}, {0, 0, HIGH}};
        for (int[] w : wrong) {
            due("letter " + w[0] + " " + w[1] + " " + w[2], x.letter(w[0], w[1], w[2]), -1);
        }
        // what a faulty text had read stays out of sight, and out of the next list
        Checks.list(x, 2, "xxxxxxxx I yyyyyyyy I");
        due("no second list", x.letter(1, 0, 0), -1);
        Checks.list(x, 2, "q I r");
        due("the second list", x.letter(1, 0, 0), 'q');
        due("one letter alone", x.letter(1, 0, 1), -1);
    }

    private static void count() {
        CHECKS.part("21 count");
        MileLists x = new MileLists();
        Checks.list(x, 2, "a I b");
        x.day(4);
        Checks.ruin(x, 600, "a");
        Checks.stone(x, 5, 1, 2, "a");
        Checks.stone(x, 5, 1, 2, "a");
        x.day(5);
        Checks.ruin(x, 0, "b");
        Checks.ruin(x, 7, "b");
        x.habit(1, 0, 1);
        x.habit(2, 0, 1);
        x.habit(3, 0, 1);
        x.habit(4, 0, 1);
        x.costs(11, 12);
        Checks.type(x, "abcdefg");
        int[] want = {1, 3, 2, 4, 9, 7, 11, 12, -1, -1, 600, 0, 7, -1};
        for (int what = 0; what < want.length; what++) {
            due("count " + what, x.count(what), want[what]);
        }
        due("first ruin's day", x.count(30), 4);
        due("second ruin's day", x.count(31), 9);
        due("third ruin's day", x.count(32), 9);
        for (int what : new int[] {-1, 22, 29, 33, 42, LOW, HIGH, LOW + 10, LOW + 30}) {
            due("count " + what, x.count(what), -1);
        }
        x.end(0);
        for (int i = 3; i < 12; i++) {
            Checks.ruin(x, 100 + i, "c");
        }
        due("twelfth ruin", x.count(21), 111);
        due("no thirteenth", x.count(22), -1);
        due("twelfth ruin's day", x.count(41), 9);
        due("no thirteenth's day", x.count(42), -1);
        due("29 is none of them", x.count(29), -1);
    }

    /** The dearest calls, as many as an object is used for. */
    private static void manyCalls() {
        CHECKS.part("512 calls");
        MileLists x = new MileLists();
        for (int i = 0; i < 4; i++) {
            Checks.list(x, 2, "aVIbVIcVIdVIeVIfVIgVIhVIiVIj");
        }
        for (int i = 0; i < 20; i++) {
            x.habit(1 + i % 4, i / 4 == 1 + i % 4 ? 0 : i / 4, 1 + i % 3);
        }
        for (int i = 0; i < 12; i++) {
            Checks.ruin(x, 40 * i, "a");
            Checks.stone(x, 40 * i, 20, 2, "b");
        }
        x.costs(0, 0);
        int first = x.best(0, 0);
        for (int i = 0; i < 300; i++) {
            due("rivals", x.rivals(i % 4, 0, 20), 1000000);
        }
        due("best is the same", x.best(3, 0), first);
    }
}
