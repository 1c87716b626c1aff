/** Promises 12 to 21 of the document: all that is asked, and changes nothing (but for a TAPE that is read). */
final class EdgesOfAnswers extends EdgePart {
    /** A whole number of lists, stations or days that no room of these tests has. */
    private static final int[] WILD = {-1, -2, Edges.LOW, Edges.HIGH};

    EdgesOfAnswers(Edges edges) {
        super(edges);
    }

    @Override
    void run() {
        apart();
        apartNoName();
        apartNoSuch();
        reading();
        readingNone();
        best();
        bestNone();
        bestNoPlacing();
        at();
        atNone();
        span();
        spanNone();
        rivals();
        manyRivals();
        askedInTurn();
        rivalsNone();
        shared();
        sharedNone();
        of();
        ofThrows();
        letter();
        count();
        countNone();
        manyCalls();
        for (int promise = 12; promise <= 21; promise++) {
            edges.wholeQuoted("Promise " + promise);
        }
    }

    /** Edges.room: two lists of three stations, day 5. */
    private static MileLists room() {
        return Edges.room("velia I alba");
    }

    /** As room(), but list 2 is too long for the road. */
    private static MileLists roomWithoutPlacing() {
        MileLists x = Edges.room("");
        Checks.list(x, 2, "roma LLLLLLLL ostia");
        Checks.type(x, "velia I alba");
        return x;
    }

    private void apart() {
        promise(12, "How far the NAME that the TAPE is (empty then) and that of a STATION of a LIST are apart.");
        MileLists x = Edges.room("");
        String[] names = {"roma", "ostia", "portus"};
        for (int s = 0; s < 3; s++) {
            due("the same name, station " + s, Checks.apart(x, 0, s, names[s]), 0);
            due("an empty tape", x.count(5), 0);
        }
        due("the last list's last", Checks.apart(x, 1, 2, "alba"), 0);
        due("the shortest name", Checks.apart(x, 0, 0, "r"), 6);
        due("the longest name", Checks.apart(x, 0, 0, "romaxxxx"), 8);
        due("alike", Checks.apart(x, 0, 1, "ostja"), 1);
        due("the tape is gone", x.apart(0, 0), -1);
    }

    private void apartNoName() {
        promise(12, "NONE: it is no NAME");
        for (String tape : new String[] {"", "abcdefghi", " ", " roma", "roma ", "ro ma", "roma\n", "Roma", "V", "romaI", "\0", "`", "{"}) {
            edges.refusedAndRead("apart with '" + tape + "'", () -> Edges.room(tape), x -> x.apart(0, 0), -1);
        }
    }

    private void apartNoSuch() {
        promise(12, "there are no such ones.");
        edges.refusedAndRead("no list 2", () -> Edges.room("roma"), x -> x.apart(2, 0), -1);
        edges.refusedAndRead("no station 3", () -> Edges.room("roma"), x -> x.apart(0, 3), -1);
        for (int wild : WILD) {
            edges.refusedAndRead("no list " + wild, () -> Edges.room("roma"), x -> x.apart(wild, 0), -1);
            edges.refusedAndRead("no station " + wild, () -> Edges.room("roma"), x -> x.apart(0, wild), -1);
        }
        due("no list at all", Checks.apart(new MileLists(), 0, 0, "a"), -1);
        MileLists x = Edges.fullRoom("");
        due("the last list", Checks.apart(x, 3, 1, "roma"), 0);
        due("no fifth", Checks.apart(x, 4, 0, "roma"), -1);
        x = Checks.withList("aIbIcIdIeIfIgIhIiIj");
        due("the tenth station", Checks.apart(x, 0, 9, "j"), 0);
        due("no eleventh", Checks.apart(x, 0, 10, "j"), -1);
    }

    private void reading() {
        promise(13, "READINGS of the NUMERAL behind a STATION: what VALUE v costs.");
        MileLists x = Checks.withList("aIbIIcIIIdIIIIeVfVIgVIIhVIIIiXj", 1, 0, 20, 0, 1, 1);
        int[] values = {1, 2, 3, 4, 5, 6, 7, 8, 10};
        for (int s = 0; s < 9; s++) {
            due("itself, behind station " + s, x.reading(0, s, values[s]), 0);
            due("one more", x.reading(0, s, values[s] + 1), 20);
            boolean canGo = s != 0 && values[s] != 5 && values[s] != 10;
            due("one less", x.reading(0, s, values[s] - 1), canGo ? 1 : -1);
        }
        due("the greatest of all", Checks.withList("a LLLLLLLL b", 4, 0, 7).reading(0, 0, 450), 7);
        due("the least of all", Checks.withList("a II b", 0, 1, 7).reading(0, 0, 1), 7);
    }

    private void readingNone() {
        promise(13, "NONE: there is no such NUMERAL, or READING.");
        edges.refused("behind the last station", EdgesOfAnswers::room, x -> x.reading(0, 2, 5), -1);
        edges.refused("behind no station", EdgesOfAnswers::room, x -> x.reading(0, 3, 5), -1);
        edges.refused("of no list", EdgesOfAnswers::room, x -> x.reading(2, 0, 12), -1);
        for (int wild : WILD) {
            edges.refused("station " + wild, EdgesOfAnswers::room, x -> x.reading(0, wild, 12), -1);
            edges.refused("list " + wild, EdgesOfAnswers::room, x -> x.reading(wild, 0, 12), -1);
            edges.refused("value " + wild, EdgesOfAnswers::room, x -> x.reading(0, 0, wild), -1);
        }
        for (int v : new int[] {0, 11, 14, 15, 17, 22}) {
            edges.refused("value " + v + " of XII", EdgesOfAnswers::room, x -> x.reading(0, 0, v), -1);
        }
        due("12 of XII", room().reading(0, 0, 12), 0);
        due("13 of XII", room().reading(0, 0, 13), 2);
        due("no list at all", new MileLists().reading(0, 0, 1), -1);
        MileLists x = Checks.withList("aIbIcIdIeIfIgIhIiIIj");
        due("behind the ninth", x.reading(0, 8, 2), 0);
        due("behind the tenth", x.reading(0, 9, 2), -1);
        // the tenth NUMERAL of a text that had a fault is none of the next list's
        x = new MileLists();
        Checks.list(x, 2, "aIbIcIdIeIfIgIhIiIjVk");
        Checks.list(x, 2, "aIbIcIdIeIfIgIhIiIj");
        due("none left by another text", x.reading(0, 9, 5), -1);
    }

    private void best() {
        promise(14, "COST of the BEST of a LIST as known on a DAY (0 to the DAY at hand).");
        MileLists x = room();
        // day 0: roma at 100, ostia lost where its stone tells, portus lost; from day 3 on roma against its stone (7),
        // ostia a mile farther (2), as ostja (1) and against its stone (7), portus lost (11)
        int[] first = {22, 22, 22, 28, 28, 28};
        for (int day = 0; day <= 5; day++) {
            due("list 0 on day " + day, x.best(0, day), first[day]);
        }
        due("the day behind", x.best(0, 6), -1);
        due("the day ahead of the first", x.best(0, -1), -1);
        x.day(1);
        due("the next day, once it has come", x.best(0, 6), first[5]);
        x = Checks.withList("a LLLLLL b");
        due("the only day", x.best(0, 0), 20);
        x.costs(0, 0);
        due("the least of all", x.best(0, 0), 0);
    }

    private void bestNone() {
        promise(14, "NONE: no such ones;");
        edges.refused("list 2", EdgesOfAnswers::room, x -> x.best(2, 0), -1);
        edges.refused("day 6", EdgesOfAnswers::room, x -> x.best(0, 6), -1);
        for (int wild : WILD) {
            edges.refused("list " + wild, EdgesOfAnswers::room, x -> x.best(wild, 0), -1);
            edges.refused("day " + wild, EdgesOfAnswers::room, x -> x.best(0, wild), -1);
        }
        edges.refused("no such day of a list without a placing", EdgesOfAnswers::roomWithoutPlacing, x -> x.best(2, 6), -1);
        due("no list at all", new MileLists().best(0, 0), -1);
        due("the fourth list", Edges.fullRoom("").best(3, 0) >= 0 ? 1 : 0, 1);
        due("no fifth list", Edges.fullRoom("").best(4, 0), -1);
    }

    private void bestNoPlacing() {
        promise(14, "-2: there is no PLACING.");
        edges.refused("too long", EdgesOfAnswers::roomWithoutPlacing, x -> x.best(2, 5), -2);
        due("600 places", Checks.withList("a LLLLLL b").best(0, 0), 20);
        due("602 places", Checks.withList("a LLLLLLI b").best(0, 0), -2);
        due("the longest", Checks.withList("a LLLLLLLL b LLLLLLLL c").best(0, 0), -2);
        due("602 places in many steps", Checks.withList("aLbLcLdLeLfIg").best(0, 0), 70);
        due("602 places in seven steps", Checks.withList("aLbLcLdLeLfLgIh").best(0, 0), -2);
        MileLists x = Checks.withList("a LLLLLLI b");
        due("a habit that makes it longer", x.habit(1, 0, 1), 0);
        due("no placing by it", x.best(0, 0), -2);
        due("a habit that makes it shorter", x.habit(0, 1, 20), 1);
        due("a placing by it", x.best(0, 0), 40);
        // ruins and stones do not take a placing away
        x = Checks.withList("a LLLLLL b");
        x.costs(50, 50);
        for (int i = 0; i < 12; i++) {
            Checks.stone(x, 1, 1, 2, "a");
        }
        due("however dear", x.best(0, 0), 700);
    }

    private void at() {
        promise(15, "The PLACE of a STATION in it.");
        MileLists x = Checks.withList("a LLLLLL b");
        due("the first place", x.at(0, 0, 0), 0);
        due("the last place", x.at(0, 0, 1), 600);
        x = Checks.withList("aIbIcIdIeIfIgIhIiIj");
        for (int s = 0; s < 10; s++) {
            due("station " + s + " of ten", x.at(0, 0, s), 2 * s);
        }
        x.day(1);
        Checks.ruin(x, 600, "j");
        for (int s = 0; s < 10; s++) {
            due("station " + s + " on day 1", x.at(0, 1, s), 582 + 2 * s);
            due("station " + s + " on day 0", x.at(0, 0, s), 2 * s);
        }
    }

    private void atNone() {
        promise(15, "NONE: no such ones, or no PLACING.");
        edges.refused("list 2", EdgesOfAnswers::room, x -> x.at(2, 0, 0), -1);
        edges.refused("day 6", EdgesOfAnswers::room, x -> x.at(0, 6, 0), -1);
        edges.refused("station 3", EdgesOfAnswers::room, x -> x.at(0, 0, 3), -1);
        for (int wild : WILD) {
            edges.refused("list " + wild, EdgesOfAnswers::room, x -> x.at(wild, 0, 0), -1);
            edges.refused("day " + wild, EdgesOfAnswers::room, x -> x.at(0, wild, 0), -1);
            edges.refused("station " + wild, EdgesOfAnswers::room, x -> x.at(0, 0, wild), -1);
        }
        edges.refused("no placing", EdgesOfAnswers::roomWithoutPlacing, x -> x.at(2, 5, 0), -1);
        edges.refused("no placing, the last station", EdgesOfAnswers::roomWithoutPlacing, x -> x.at(2, 5, 1), -1);
        due("no list at all", new MileLists().at(0, 0, 0), -1);
        due("the eleventh of ten", Checks.withList("aIbIcIdIeIfIgIhIiIj").at(0, 0, 10), -1);
        due("the third of two", Checks.withList("a I b").at(0, 0, 2), -1);
    }

    private void span() {
        promise(16, "SPAN of a STATION within d, what 0 the least PLACE, 1 the greatest.");
        MileLists x = Checks.withList("aIbIcIdIeIfIgIhIiIj");
        for (int s = 0; s < 10; s++) {
            due("least of station " + s, x.span(0, 0, 0, s, 0), 2 * s);
            due("greatest of station " + s, x.span(0, 0, 0, s, 1), 582 + 2 * s);
        }
        x = Checks.withList("a I b", 4, 0, 20);
        Checks.ruin(x, 100, "a");
        Checks.ruin(x, 102, "b");
        due("the best alone", x.span(0, 0, 0, 1, 1), 102);
        due("within 19", x.span(0, 0, 19, 1, 1), 104);
        due("within 20", x.span(0, 0, 20, 1, 1), 600);
        due("within 20, the least", x.span(0, 0, 20, 1, 0), 2);
    }

    private void spanNone() {
        promise(16, "NONE likewise, another d, what.");
        int[][] wrong = {{2, 0, 0, 0, 0}, {0, 6, 0, 0, 0}, {0, 0, 21, 0, 0}, {0, 0, 0, 3, 0}, {0, 0, 0, 0, 2}};
        for (int[] w : wrong) {
            edges.refused("span " + java.util.Arrays.toString(w), EdgesOfAnswers::room,
                x -> x.span(w[0], w[1], w[2], w[3], w[4]), -1);
        }
        for (int wild : WILD) {
            for (int i = 0; i < 5; i++) {
                int[] w = new int[5];
                w[i] = wild;
                edges.refused("span " + java.util.Arrays.toString(w), EdgesOfAnswers::room,
                    x -> x.span(w[0], w[1], w[2], w[3], w[4]), -1);
            }
        }
        edges.refused("no placing", EdgesOfAnswers::roomWithoutPlacing, x -> x.span(2, 5, 20, 1, 1), -1);
        edges.refused("no placing, the least", EdgesOfAnswers::roomWithoutPlacing, x -> x.span(2, 5, 0, 0, 0), -1);
        MileLists x = Checks.withList("a I b");
        due("d 0", x.span(0, 0, 0, 0, 1), 598);
        due("d 20", x.span(0, 0, 20, 0, 1), 598);
        due("no list at all", new MileLists().span(0, 0, 0, 0, 0), -1);
    }

    private void rivals() {
        promise(17, "How many RIVALS there are within d (the BEST is one);");
        due("the best alone", Checks.withList("a LLLLLL b").rivals(0, 0, 0), 1);
        due("the best alone within 20", Checks.withList("a LLLLLL b").rivals(0, 0, 20), 1);
        due("all are the best", Checks.withList("a I b").rivals(0, 0, 0), 599);
        MileLists x = Checks.withList("a LLLLLL b", 0, 4, 1);
        due("one of them", x.rivals(0, 0, 0), 1);
        due("and 101 more", x.rivals(0, 0, 1), 102);
        // a value by two habits is one placing
        x = Checks.withList("a LLLLLL b", 0, 4, 1, 0, 4, 2);
        due("not twice", x.rivals(0, 0, 20), 102);
    }

    private void manyRivals() {
        promise(17, "1000000 if more.");
        // seven numerals, each as it is, or a mile more or less: 3 to the 7th times 601 less the places of the mean row
        MileLists x = Checks.withList("aVIbXIcXIdXIeXIfXIgXIh", 1, 0, 1, 0, 1, 1);
        x.costs(0, 0);
        due("less", x.rivals(0, 0, 20), 2187 * (601 - 144));
        x = Checks.withList("aIIIIIbXIcXIdXIeXIfXIgXIh", 1, 0, 1, 0, 1, 1);
        x.costs(0, 0);
        due("2187 times 459 are more", x.rivals(0, 0, 20), 1000000);
        due("not all of them within 6", x.rivals(0, 0, 6), (2187 - 128) * 459);
        // five numerals with five readings, one with two, one with one; the mean row is 441 places long
        x = Checks.withList("aXVIbXVIcXVIdXVIeXXVIfLIgLLh", 0, 1, 1, 0, 2, 1, 0, 3, 1, 1, 2, 1);
        x.costs(0, 0);
        due("just so many", x.rivals(0, 0, 6), 3125 * 2 * 160);
        due("a few less", x.rivals(0, 0, 5) < 1000000 ? 1 : 0, 1);
        x = Checks.withList("aXVIbXVIcXVIdXVIeXVIfXVIgXVIhXVIiXVIj");
        x.costs(0, 0);
        for (int truly = 0; truly <= 4; truly++) {
            for (int written = 0; written <= 4; written++) {
                x.habit(truly, written, 1);
            }
        }
        due("by all habits", x.count(3), 20);
        due("as many as there can be", x.rivals(0, 0, 20), 1000000);
    }

    private void askedInTurn() {
        promise(17, "How many RIVALS there are within d (the BEST is one);");
        // list 0 has three readings where list 1 has but one: none of list 0's comes into list 1's answers
        MileLists x = Checks.withList("a LLLLLI b", 0, 1, 1, 2, 1, 1);
        Checks.list(x, 2, "a LLLLL b");
        for (int i = 0; i < 2; i++) {
            due("rivals of list 0", x.rivals(0, 0, 20), 99 + 101 + 91);
            due("rivals of list 1", x.rivals(1, 0, 20), 101);
            due("best of list 0", x.best(0, 0), 20);
            due("best of list 1", x.best(1, 0), 20);
            due("greatest of list 0", x.span(0, 0, 20, 0, 1), 100);
            due("greatest of list 1", x.span(1, 0, 20, 0, 1), 100);
            due("least of list 0", x.span(0, 0, 20, 1, 0), 500);
            due("least of list 1", x.span(1, 0, 20, 1, 0), 500);
        }
        x = Checks.withList("a LLLLLI b", 0, 1, 1);
        Checks.list(x, 2, "a XX b");
        due("rivals of the longer list", x.rivals(0, 0, 20), 99 + 101);
        due("rivals of the shorter list", x.rivals(1, 0, 20), 561);
        due("its places", x.at(1, 0, 1), 40);
        due("its greatest place", x.span(1, 0, 20, 1, 1), 600);
        due("its first one's greatest", x.span(1, 0, 20, 0, 1), 560);
        // a ruin that only a reading of the other list would reach
        x.day(1);
        Checks.ruin(x, 0, "a");
        Checks.ruin(x, 500, "b");
        due("the longer list reaches it", x.best(0, 1), 1);
        due("the shorter one does not", x.best(1, 1), 10);
        due("the longer one's last place", x.at(0, 1, 1), 500);
        due("the shorter one's last place", x.at(1, 1, 1), 40);
        // ten miles, that list 0 may read for 10, would be a tie in list 1, and with a lesser place
        x = Checks.withList("a XI b", 0, 1, 10);
        Checks.list(x, 2, "a XX b");
        due("least by a habit", x.span(0, 0, 20, 1, 0), 20);
        due("least without it", x.span(1, 0, 20, 1, 0), 40);
        Checks.ruin(x, 0, "a");
        Checks.ruin(x, 20, "b");
        due("list 0 ties", x.at(0, 0, 1), 20);
        due("list 1 does not", x.at(1, 0, 1), 40);
    }

    private void rivalsNone() {
        promise(17, "NONE likewise.");
        int[][] wrong = {{2, 0, 0}, {0, 6, 0}, {0, 0, 21}};
        for (int[] w : wrong) {
            edges.refused("rivals " + java.util.Arrays.toString(w), EdgesOfAnswers::room, x -> x.rivals(w[0], w[1], w[2]), -1);
        }
        for (int wild : WILD) {
            edges.refused("rivals of list " + wild, EdgesOfAnswers::room, x -> x.rivals(wild, 0, 0), -1);
            edges.refused("rivals on day " + wild, EdgesOfAnswers::room, x -> x.rivals(0, wild, 0), -1);
            edges.refused("rivals within " + wild, EdgesOfAnswers::room, x -> x.rivals(0, 0, wild), -1);
        }
        edges.refused("no placing", EdgesOfAnswers::roomWithoutPlacing, x -> x.rivals(2, 5, 20), -1);
        due("no list at all", new MileLists().rivals(0, 0, 0), -1);
    }

    /** Four lists that all read XI as XII from day 1 on. */
    private static MileLists fourLists() {
        MileLists x = new MileLists();
        Checks.list(x, 2, "roma XI ostia");
        Checks.list(x, 2, "roma XI ostia XI alba");
        Checks.list(x, 2, "ostia XI alba");
        Checks.list(x, 2, "roma XI ostia XI alba XI velia");
        x.habit(1, 0, 2);
        x.day(1);
        Checks.ruin(x, 100, "roma");
        Checks.ruin(x, 124, "ostia");
        Checks.ruin(x, 148, "alba");
        Checks.ruin(x, 172, "velia");
        x.day(1);
        return x;
    }

    private void shared() {
        promise(18, "How many FAULTS two LISTS SHARE as known on a DAY.");
        MileLists x = fourLists();
        int[][] want = {{-1, 1, 0, 1}, {1, -1, 1, 2}, {0, 1, -1, 1}, {1, 2, 1, -1}};
        for (int a = 0; a < 4; a++) {
            for (int b = 0; b < 4; b++) {
                due("shared " + a + " " + b + " on day 1", x.shared(a, b, 1), want[a][b]);
                due("shared " + a + " " + b + " on day 2", x.shared(a, b, 2), want[a][b]);
                due("shared " + a + " " + b + " on day 0", x.shared(a, b, 0), a == b ? -1 : 0);
            }
        }
        StringBuilder text = new StringBuilder("aaaaaaaa");
        for (int i = 1; i < 10; i++) {
            text.append('I').append(("" + (char) ('a' + i)).repeat(8));
        }
        x = new MileLists();
        Checks.list(x, 2, text.toString());
        Checks.list(x, 2, text.toString());
        x.habit(1, 0, 1);
        for (int i = 0; i < 10; i++) {
            Checks.ruin(x, 100 + 4 * i, ("" + (char) ('a' + i)).repeat(8));
        }
        due("all nine", x.shared(0, 1, 0), 9);
        x = roomWithoutPlacing();
        due("a list without a placing takes no reading", x.shared(0, 2, 5), 0);
        due("nor the other way", x.shared(2, 0, 5), 0);
    }

    private void sharedNone() {
        promise(18, "NONE: no such two, DAY.");
        int[][] wrong = {{0, 0, 0}, {1, 1, 5}, {0, 2, 0}, {2, 0, 0}, {2, 2, 0}, {0, 1, 6}};
        for (int[] w : wrong) {
            edges.refused("shared " + java.util.Arrays.toString(w), EdgesOfAnswers::room, x -> x.shared(w[0], w[1], w[2]), -1);
        }
        for (int wild : WILD) {
            edges.refused("shared by list " + wild, EdgesOfAnswers::room, x -> x.shared(wild, 0, 0), -1);
            edges.refused("shared with list " + wild, EdgesOfAnswers::room, x -> x.shared(0, wild, 0), -1);
            edges.refused("shared on day " + wild, EdgesOfAnswers::room, x -> x.shared(0, 1, wild), -1);
        }
        edges.refused("no such day, and no placing", EdgesOfAnswers::roomWithoutPlacing, x -> x.shared(0, 2, 6), -1);
        due("the first day", room().shared(0, 1, 0) >= 0 ? 1 : 0, 1);
        due("the day at hand", room().shared(0, 1, 5) >= 0 ? 1 : 0, 1);
        due("no list at all", new MileLists().shared(0, 1, 0), -1);
        due("one list alone", Checks.withList("a I b").shared(0, 1, 0), -1);
    }

    private void of() {
        promise(19, "Of a LIST what 0 UNIT, 1 STATIONS, 10 and i the VALUE of the NUMERAL behind STATION i, "
            + "20 and i letters of STATION i's NAME.");
        MileLists x = new MileLists();
        Checks.list(x, 3, "a LLLLLLLL abcdefgh");
        Checks.list(x, 2, "aIabIIabcIIIabcdIIIIabcdeVabcdefVIabcdefgVIIabcdefghVIIIbXbb");
        due("unit 3", x.of(0, 0), 3);
        due("unit 2", x.of(1, 0), 2);
        due("the fewest stations", x.of(0, 1), 2);
        due("the most stations", x.of(1, 1), 10);
        due("the greatest value", x.of(0, 10), 400);
        int[] values = {1, 2, 3, 4, 5, 6, 7, 8, 10};
        int[] letters = {1, 2, 3, 4, 5, 6, 7, 8, 1, 2};
        for (int i = 0; i < 9; i++) {
            due("value behind station " + i, x.of(1, 10 + i), values[i]);
        }
        for (int i = 0; i < 10; i++) {
            due("letters of station " + i, x.of(1, 20 + i), letters[i]);
        }
        due("letters of the first of two", x.of(0, 20), 1);
        due("letters of the last of two", x.of(0, 21), 8);
        x.habit(4, 0, 1);
        due("no habit changes it", x.of(0, 10), 400);
    }

    private void ofThrows() {
        promise(19, "NoSuchElementException: no such LIST, what.");
        for (int list : new int[] {2, -1, 4, Edges.LOW, Edges.HIGH}) {
            edges.refused("of list " + list, EdgesOfAnswers::room, x -> Checks.ofThrows(x, list, 0), 1);
        }
        // of lists with three stations
        for (int what : new int[] {-1, 2, 9, 12, 13, 19, 23, 29, 30, Edges.LOW, Edges.HIGH, Edges.LOW + 10, Edges.LOW + 20}) {
            edges.refused("of what " + what, EdgesOfAnswers::room, x -> Checks.ofThrows(x, 0, what), 1);
        }
        MileLists x = Checks.withList("aIbIcIdIeIfIgIhIiIj");
        due("behind the ninth of ten", x.of(0, 18), 1);
        due("behind the tenth of ten", Checks.ofThrows(x, 0, 19), 1);
        due("the tenth of ten", x.of(0, 29), 1);
        due("the eleventh of ten", Checks.ofThrows(x, 0, 30), 1);
        x = new MileLists();
        due("no list at all", Checks.ofThrows(x, 0, 0), 1);
        Checks.list(x, 2, "a I b I");
        due("a faulty one is none", Checks.ofThrows(x, 0, 0), 1);
        x = Edges.fullRoom("");
        due("the fourth", x.of(3, 0), 2);
        due("no fifth", Checks.ofThrows(x, 4, 0), 1);
    }

    private void letter() {
        promise(20, "Byte i of a STATION's NAME; NONE.");
        MileLists x = Checks.withList("az I abcdefgh");
        for (int i = 0; i < 8; i++) {
            due("byte " + i + " of eight", x.letter(0, 1, i), 97 + i);
        }
        due("no ninth", x.letter(0, 1, 8), -1);
        due("the last of two", x.letter(0, 0, 1), 122);
        due("no third", x.letter(0, 0, 2), -1);
        int[][] wrong = {{2, 0, 0}, {0, 3, 0}, {0, 0, 4}, {0, 0, 8}};
        for (int[] w : wrong) {
            edges.refused("letter " + java.util.Arrays.toString(w), EdgesOfAnswers::room, y -> y.letter(w[0], w[1], w[2]), -1);
        }
        for (int wild : WILD) {
            edges.refused("letter of list " + wild, EdgesOfAnswers::room, y -> y.letter(wild, 0, 0), -1);
            edges.refused("letter of station " + wild, EdgesOfAnswers::room, y -> y.letter(0, wild, 0), -1);
            edges.refused("letter " + wild, EdgesOfAnswers::room, y -> y.letter(0, 0, wild), -1);
        }
        due("no list at all", new MileLists().letter(0, 0, 0), -1);
        x = Checks.withList("aIbIcIdIeIfIgIhIiIj");
        due("of the tenth", x.letter(0, 9, 0), 'j');
        due("of no eleventh", x.letter(0, 10, 0), -1);
    }

    private void count() {
        promise(21, "0 LISTS, 1 RUINS, 2 STONES, 3 HABITS, 4 DAY, 5 bytes of the TAPE, 6 LOST, 7 MOVED; "
            + "10 and r the PLACE of RUIN r, 30 and r the DAY on which it was found.");
        MileLists x = Edges.room("velia I alba");
        int[] want = {2, 2, 2, 2, 5, 12, 11, 7};
        for (int what = 0; what < want.length; what++) {
            due("count " + what, x.count(what), want[what]);
        }
        due("place of ruin 0", x.count(10), 100);
        due("place of ruin 1", x.count(11), 126);
        due("day of ruin 0", x.count(30), 0);
        due("day of ruin 1", x.count(31), 3);
        x = Edges.fullRoom("a".repeat(200));
        int[] full = {4, 12, 12, 20, 0, 200, 10, 6};
        for (int what = 0; what < full.length; what++) {
            due("count " + what + " of a full room", x.count(what), full[what]);
        }
        x = new MileLists();
        for (int i = 0; i < 12; i++) {
            Checks.ruin(x, 50 * i, "a");
            x.day(i);
        }
        int day = 0;
        for (int i = 0; i < 12; i++) {
            due("place of ruin " + i, x.count(10 + i), 50 * i);
            due("day of ruin " + i, x.count(30 + i), day);
            day += i;
        }
    }

    private void countNone() {
        promise(21, "NONE for others.");
        for (int what : new int[] {-1, 8, 9, 12, 21, 22, 29, 32, 41, 42, 50, Edges.LOW, Edges.HIGH, Edges.LOW + 10, Edges.LOW + 30}) {
            edges.refused("count " + what, () -> Edges.room("velia"), x -> x.count(what), -1);
        }
        for (int what : new int[] {-1, 8, 9, 22, 23, 28, 29, 42, 43}) {
            due("count " + what + " of a full room", Edges.fullRoom("").count(what), -1);
        }
        due("no ruin yet", new MileLists().count(10), -1);
        due("no ruin's day yet", new MileLists().count(30), -1);
    }

    private void manyCalls() {
        edges.sentence("What it is", "An object is used for at most 512 calls after it has been made; what later calls answer is free.");
        MileLists x = new MileLists();
        for (int i = 0; i < 509; i++) {
            x.sound(i % 26, 0);
        }
        due("the 510th call", x.feed(0x61204920, 0x62202020, 0x20202020, 0x20202020, 0x20202020), 20);
        due("the 511th call", x.list(2), 0);
        due("the 512th call", x.best(0, 0), 20);
    }
}
