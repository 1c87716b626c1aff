import java.util.NoSuchElementException;

/** Old lists of stations, laid on a road where it costs the least (see README.md). */
public final class MileLists {
    public static final int NONE = -1;

    private static final int NO_PLACING = -2;
    private static final int LAST_PLACE = 600;
    private static final int PLACES = LAST_PLACE + 1;
    private static final int TAPE_ROOM = 200;
    private static final int BYTES_A_FEED = 20;
    private static final int LONGEST_NAME = 8;
    private static final int LONGEST_NUMERAL = 8;
    private static final int MOST_STATIONS = 10;
    private static final int MOST_LISTS = 4;
    private static final int MOST_FINDS = 12;
    private static final int MOST_MILES = 200;
    private static final int MOST_HABITS = 20;
    private static final int DEAREST_HABIT = 20;
    private static final int LETTERS = 26;
    private static final int MOST_LOST = 50;
    private static final int MOST_MOVED = 50;
    private static final int MOST_DAYS_AT_ONCE = 1000;
    private static final int LAST_DAY = 100000;
    private static final int WIDEST = 20;
    private static final int MOST_RIVALS = 1000000;
    /** Far above every COST, and small enough that sums with it stay whole. */
    private static final int OUT_OF_REACH = 1000000;

    private static final int NO_FAULT = 0;
    private static final int FAULT_STUCK = 1;
    private static final int FAULT_TOO_MANY = 2;
    private static final int FAULT_TWICE = 3;

    /** The VALUES of no sign (0) and of the SIGNS I, V, X, L (1 to 4). */
    private static final int[] SIGN_VALUES = {0, 1, 5, 10, 50};

    private final Tape tape;
    /** The NAME that the TAPE was when it was read last. */
    private final Name spoken;
    private final Scribe scribe;
    private final Route[] routes;
    private int routeCount;
    private int faultPlace;
    private final Land land;
    private final Habits habits;
    private final Sounds sounds;
    private final Placer placer;
    private int today;

    public MileLists() {
        tape = new Tape();
        spoken = new Name();
        scribe = new Scribe();
        routes = new Route[MOST_LISTS];
        for (int i = 0; i < MOST_LISTS; i++) {
            routes[i] = new Route();
        }
        routeCount = 0;
        faultPlace = NONE;
        land = new Land();
        habits = new Habits();
        sounds = new Sounds();
        placer = new Placer();
        today = 0;
    }

    public int feed(int a, int b, int c, int d, int e) {
        if (tape.size + BYTES_A_FEED > TAPE_ROOM) {
            return NONE;
        }
        tape.addFour(a);
        tape.addFour(b);
        tape.addFour(c);
        tape.addFour(d);
        tape.addFour(e);
        return tape.size;
    }

    public int end(int n) {
        if (n < 0 || n > tape.size) {
            return NONE;
        }
        tape.size = n;
        return n;
    }

    public int list(int unit) {
        if (!isUnit(unit) || routeCount >= MOST_LISTS) {
            return NONE;
        }
        Route route = routes[routeCount];
        scribe.readText(tape, route);
        tape.size = 0;
        faultPlace = scribe.faultPlace;
        if (scribe.fault != NO_FAULT) {
            return -scribe.fault - 1;
        }
        route.unit = unit;
        routeCount++;
        return routeCount - 1;
    }

    public int place() {
        return faultPlace;
    }

    public int ruin(int at) {
        boolean named = takeName();
        if (!named || !isPlace(at) || land.hasRuinAt(at)) {
            return NONE;
        }
        return land.addRuin(spoken, at, today);
    }

    public int stone(int at, int miles, int unit) {
        boolean named = takeName();
        if (!named || !isPlace(at) || !isUnit(unit) || miles < 1 || miles > MOST_MILES) {
            return NONE;
        }
        return land.addStone(spoken, at, miles * unit, today);
    }

    public int habit(int truly, int written, int cost) {
        boolean signs = isSignOrNone(truly) && isSignOrNone(written) && truly != written;
        if (!signs || cost < 1 || cost > DEAREST_HABIT) {
            return NONE;
        }
        return habits.add(truly, written, cost);
    }

    public boolean sound(int a, int b) {
        if (a < 0 || a >= LETTERS || b < 0 || b >= LETTERS || sounds.alike(a, b)) {
            return false;
        }
        sounds.join(a, b);
        return true;
    }

    public boolean costs(int lost, int moved) {
        if (lost < 0 || lost > MOST_LOST || moved < 0 || moved > MOST_MOVED) {
            return false;
        }
        land.lost = lost;
        land.moved = moved;
        return true;
    }

    public int day(int n) {
        if (n < 0 || n > MOST_DAYS_AT_ONCE || today + n > LAST_DAY) {
            return NONE;
        }
        today += n;
        return today;
    }

    public int apart(int list, int station) {
        boolean named = takeName();
        if (!named || !hasStation(list, station)) {
            return NONE;
        }
        return sounds.distance(spoken, routes[list].names[station]);
    }

    public int reading(int list, int station, int v) {
        if (!hasNumeral(list, station)) {
            return NONE;
        }
        return placer.costOfValue(routes[list].numerals[station], habits, v);
    }

    public int best(int list, int day) {
        if (!hasList(list) || !isKnownDay(day)) {
            return NONE;
        }
        return lay(list, day) ? placer.least : NO_PLACING;
    }

    public int at(int list, int day, int station) {
        if (!hasStation(list, station) || !isKnownDay(day) || !lay(list, day)) {
            return NONE;
        }
        placer.walkBest();
        return placer.bestPlaces[station];
    }

    public int span(int list, int day, int d, int station, int what) {
        boolean asked = isWidth(d) && (what == 0 || what == 1);
        if (!asked || !hasStation(list, station) || !isKnownDay(day) || !lay(list, day)) {
            return NONE;
        }
        placer.fillBefore(station);
        return what == 0 ? placer.leastPlace(station, d) : placer.greatestPlace(station, d);
    }

    public int rivals(int list, int day, int d) {
        if (!isWidth(d) || !hasList(list) || !isKnownDay(day) || !lay(list, day)) {
            return NONE;
        }
        long number = placer.countWithin(d);
        return number > MOST_RIVALS ? MOST_RIVALS : (int) number;
    }

    public int shared(int a, int b, int day) {
        if (a == b || !hasList(a) || !hasList(b) || !isKnownDay(day)) {
            return NONE;
        }
        if (!markMisread(a, day) || !markMisread(b, day)) {
            return 0;
        }
        return routes[a].countShared(routes[b]);
    }

    public int of(int list, int what) throws NoSuchElementException {
        if (!hasList(list)) {
            throw new NoSuchElementException("no such list");
        }
        Route route = routes[list];
        if (what == 0) {
            return route.unit;
        }
        if (what == 1) {
            return route.stations;
        }
        if (what >= 10 && route.hasNumeral(what - 10)) {
            return route.numerals[what - 10].value();
        }
        if (what >= 20 && route.hasStation(what - 20)) {
            return route.names[what - 20].size;
        }
        throw new NoSuchElementException("no such what");
    }

    public int letter(int list, int station, int i) {
        if (!hasStation(list, station)) {
            return NONE;
        }
        Name name = routes[list].names[station];
        return i >= 0 && i < name.size ? name.letters[i] : NONE;
    }

    public int count(int what) {
        switch (what) {
            case 0:
                return routeCount;
            case 1:
                return land.ruinCount;
            case 2:
                return land.stoneCount;
            case 3:
                return habits.size;
            case 4:
                return today;
            case 5:
                return tape.size;
            case 6:
                return land.lost;
            case 7:
                return land.moved;
            default:
                return countOfRuin(what);
        }
    }

    private int countOfRuin(int what) {
        if (what >= 10 && what - 10 < land.ruinCount) {
            return land.ruins[what - 10].place;
        }
        if (what >= 30 && what - 30 < land.ruinCount) {
            return land.ruins[what - 30].found;
        }
        return NONE;
    }

    /** Empties the TAPE in any case; false if it was no NAME. */
    private boolean takeName() {
        boolean named = tape.isName();
        if (named) {
            spoken.take(tape, 0, tape.size);
        }
        tape.size = 0;
        return named;
    }

    private boolean hasList(int list) {
        return list >= 0 && list < routeCount;
    }

    private boolean hasStation(int list, int station) {
        return hasList(list) && routes[list].hasStation(station);
    }

    private boolean hasNumeral(int list, int station) {
        return hasList(list) && routes[list].hasNumeral(station);
    }

    private boolean isKnownDay(int day) {
        return day >= 0 && day <= today;
    }

    private static boolean isPlace(int at) {
        return at >= 0 && at <= LAST_PLACE;
    }

    private static boolean isUnit(int unit) {
        return unit == 2 || unit == 3;
    }

    private static boolean isSignOrNone(int sign) {
        return sign >= 0 && sign < SIGN_VALUES.length;
    }

    private static boolean isWidth(int d) {
        return d >= 0 && d <= WIDEST;
    }

    /** Lays a LIST as known on a DAY; false if it has no PLACING. */
    private boolean lay(int list, int day) {
        Route route = routes[list];
        placer.takeRoute(route, habits);
        for (int s = 0; s < route.stations; s++) {
            land.fillCosts(placer.own[s], route.names[s], day, sounds);
        }
        placer.fillRest();
        return placer.hasPlacing();
    }

    /** Marks which NUMERALS the BEST of a LIST reads otherwise; false if it has none. */
    private boolean markMisread(int list, int day) {
        if (!lay(list, day)) {
            return false;
        }
        placer.walkBest();
        routes[list].markMisread(placer.bestPlaces);
        return true;
    }

    /** The bytes that were fed and not yet read. */
    private static final class Tape {
        final int[] bytes = new int[TAPE_ROOM];
        int size;

        void addFour(int number) {
            for (int shift = 24; shift >= 0; shift -= 8) {
                if (size >= 0 && size < bytes.length) {
                    bytes[size] = (number >>> shift) & 255;
                    size++;
                }
            }
        }

        boolean isBlank(int i) {
            return i >= 0 && i < size && (bytes[i] == 32 || bytes[i] == 10);
        }

        boolean isName() {
            return size >= 1 && size <= LONGEST_NAME && lettersFrom(0) == size;
        }

        /** How many small letters stand together from a byte on. */
        int lettersFrom(int start) {
            int i = start;
            while (i >= 0 && i < size && bytes[i] >= 'a' && bytes[i] <= 'z') {
                i++;
            }
            return i - start;
        }

        /** How many SIGNS stand together from a byte on. */
        int signsFrom(int start) {
            int i = start;
            while (i >= 0 && i < size && signOf(bytes[i]) != 0) {
                i++;
            }
            return i - start;
        }

        /** The number of a SIGN (1 to 4), 0 for another byte. */
        static int signOf(int letter) {
            switch (letter) {
                case 'I':
                    return 1;
                case 'V':
                    return 2;
                case 'X':
                    return 3;
                case 'L':
                    return 4;
                default:
                    return 0;
            }
        }
    }

    private static final class Name {
        final int[] letters = new int[LONGEST_NAME];
        int size;

        void take(Tape tape, int start, int length) {
            size = 0;
            for (int i = start; i < start + length; i++) {
                if (i >= 0 && i < tape.size && size < letters.length) {
                    letters[size] = tape.bytes[i];
                    size++;
                }
            }
        }

        void copy(Name other) {
            size = other.size;
            for (int i = 0; i < size; i++) {
                letters[i] = other.letters[i];
            }
        }

        boolean same(Name other) {
            if (size != other.size) {
                return false;
            }
            for (int i = 0; i < size; i++) {
                if (letters[i] != other.letters[i]) {
                    return false;
                }
            }
            return true;
        }
    }

    private static final class Numeral {
        final int[] signs = new int[LONGEST_NUMERAL];
        int size;

        /** Takes the SIGNS from the TAPE; false if they are no NUMERAL. */
        boolean take(Tape tape, int start, int length) {
            size = 0;
            if (length < 1 || length > LONGEST_NUMERAL) {
                return false;
            }
            for (int i = start; i < start + length; i++) {
                if (i < 0 || i >= tape.size || size >= signs.length) {
                    return false;
                }
                signs[size] = Tape.signOf(tape.bytes[i]);
                if (size > 0 && signs[size] > signs[size - 1]) {
                    return false;
                }
                size++;
            }
            return true;
        }

        int value() {
            int sum = 0;
            for (int i = 0; i < size; i++) {
                sum += SIGN_VALUES[signs[i]];
            }
            return sum;
        }

        boolean same(Numeral other) {
            if (size != other.size) {
                return false;
            }
            for (int i = 0; i < size; i++) {
                if (signs[i] != other.signs[i]) {
                    return false;
                }
            }
            return true;
        }

        boolean holds(int sign) {
            for (int i = 0; i < size; i++) {
                if (signs[i] == sign) {
                    return true;
                }
            }
            return false;
        }

        /** Whether one of the old SIGNS can be the new one instead, in its own place. */
        boolean canSwap(int old, int fresh) {
            for (int i = 0; i < size; i++) {
                boolean fitsAhead = i == 0 || signs[i - 1] >= fresh;
                boolean fitsBehind = i == size - 1 || signs[i + 1] <= fresh;
                if (signs[i] == old && fitsAhead && fitsBehind) {
                    return true;
                }
            }
            return false;
        }
    }

    /** A LIST: its STATIONS, and behind each but the last a NUMERAL. */
    private static final class Route {
        final Name[] names = new Name[MOST_STATIONS];
        /** One more than a LIST can have: a NUMERAL may come ahead of an 11th NAME. */
        final Numeral[] numerals = new Numeral[MOST_STATIONS];
        final boolean[] misread = new boolean[MOST_STATIONS];
        int unit;
        int stations;

        Route() {
            for (int i = 0; i < MOST_STATIONS; i++) {
                names[i] = new Name();
                numerals[i] = new Numeral();
            }
        }

        boolean hasStation(int s) {
            return s >= 0 && s < stations;
        }

        boolean hasNumeral(int s) {
            return s >= 0 && s < stations - 1;
        }

        boolean hasNameAhead(int station) {
            for (int i = 0; i < station; i++) {
                if (names[i].same(names[station])) {
                    return true;
                }
            }
            return false;
        }

        void markMisread(int[] places) {
            for (int i = 0; i < stations - 1; i++) {
                misread[i] = places[i + 1] - places[i] != unit * numerals[i].value();
            }
        }

        int countShared(Route other) {
            int number = 0;
            for (int i = 0; i < stations - 1; i++) {
                for (int j = 0; j < other.stations - 1; j++) {
                    if (misread[i] && other.misread[j] && sameStep(i, other, j)) {
                        number++;
                    }
                }
            }
            return number;
        }

        private boolean sameStep(int i, Route other, int j) {
            return names[i].same(other.names[j]) && names[i + 1].same(other.names[j + 1])
                && numerals[i].same(other.numerals[j]);
        }
    }

    /** Reads the text of a LIST, up to its first FAULT. */
    private static final class Scribe {
        int fault;
        int faultPlace;
        private boolean awaitsName;

        void readText(Tape tape, Route route) {
            fault = NO_FAULT;
            faultPlace = NONE;
            awaitsName = true;
            route.stations = 0;
            int at = 0;
            while (at < tape.size && fault == NO_FAULT) {
                at += tape.isBlank(at) ? 1 : Math.max(1, takeToken(tape, at, route));
            }
            if (fault == NO_FAULT && (awaitsName || route.stations < 2)) {
                blame(FAULT_STUCK, tape.size);
            }
        }

        /** Answers how many bytes the TOKEN has. */
        private int takeToken(Tape tape, int at, Route route) {
            int letters = tape.lettersFrom(at);
            if (letters > 0) {
                takeWord(tape, at, letters, route);
                return letters;
            }
            int signs = tape.signsFrom(at);
            if (signs > 0) {
                takeSigns(tape, at, signs, route);
                return signs;
            }
            blame(FAULT_STUCK, at);
            return 1;
        }

        private void takeWord(Tape tape, int at, int length, Route route) {
            int station = route.stations;
            if (!awaitsName || length > LONGEST_NAME) {
                blame(FAULT_STUCK, at);
                return;
            }
            if (station < 0 || station >= MOST_STATIONS) {
                blame(FAULT_TOO_MANY, at);
                return;
            }
            route.names[station].take(tape, at, length);
            if (route.hasNameAhead(station)) {
                blame(FAULT_TWICE, at);
                return;
            }
            route.stations++;
            awaitsName = false;
        }

        private void takeSigns(Tape tape, int at, int length, Route route) {
            int behind = route.stations - 1;
            boolean goesOn = !awaitsName && behind >= 0 && behind < MOST_STATIONS;
            if (!goesOn || !route.numerals[behind].take(tape, at, length)) {
                blame(FAULT_STUCK, at);
                return;
            }
            awaitsName = true;
        }

        private void blame(int kind, int at) {
            fault = kind;
            faultPlace = at;
        }
    }

    /** A RUIN, or a STONE with its reach: how many PLACES away it says it stands. */
    private static final class Find {
        final Name name = new Name();
        int place;
        int reach;
        int found;

        void set(Name told, int at, int away, int day) {
            name.copy(told);
            place = at;
            reach = away;
            found = day;
        }
    }

    /** RUINS and STONES, and what a STATION costs at a PLACE. */
    private static final class Land {
        final Find[] ruins = new Find[MOST_FINDS];
        final Find[] stones = new Find[MOST_FINDS];
        int ruinCount;
        int stoneCount;
        int lost = 10;
        int moved = 6;

        Land() {
            for (int i = 0; i < MOST_FINDS; i++) {
                ruins[i] = new Find();
                stones[i] = new Find();
            }
        }

        boolean hasRuinAt(int place) {
            for (int r = 0; r < ruinCount; r++) {
                if (ruins[r].place == place) {
                    return true;
                }
            }
            return false;
        }

        int addRuin(Name name, int at, int day) {
            if (ruinCount >= MOST_FINDS) {
                return NONE;
            }
            ruins[ruinCount].set(name, at, 0, day);
            ruinCount++;
            return ruinCount - 1;
        }

        int addStone(Name name, int at, int reach, int day) {
            if (stoneCount >= MOST_FINDS) {
                return NONE;
            }
            stones[stoneCount].set(name, at, reach, day);
            stoneCount++;
            return stoneCount - 1;
        }

        /** Fills a row with what a STATION of that NAME costs at each PLACE. */
        void fillCosts(int[] row, Name name, int day, Sounds sounds) {
            for (int p = 0; p < row.length; p++) {
                row[p] = lost;
            }
            for (int r = 0; r < ruinCount; r++) {
                Find ruin = ruins[r];
                if (ruin.found <= day && ruin.place >= 0 && ruin.place < row.length) {
                    row[ruin.place] = sounds.distance(name, ruin.name);
                }
            }
            for (int s = 0; s < stoneCount; s++) {
                if (stones[s].found <= day && stones[s].name.same(name)) {
                    addMoved(row, stones[s]);
                }
            }
        }

        private void addMoved(int[] row, Find stone) {
            for (int p = 0; p < row.length; p++) {
                if (Math.abs(p - stone.place) != stone.reach) {
                    row[p] += moved;
                }
            }
        }
    }

    private static final class Habits {
        final int[] truly = new int[MOST_HABITS];
        final int[] written = new int[MOST_HABITS];
        final int[] costs = new int[MOST_HABITS];
        int size;

        int add(int trueSign, int writtenSign, int cost) {
            if (size >= MOST_HABITS) {
                return NONE;
            }
            truly[size] = trueSign;
            written[size] = writtenSign;
            costs[size] = cost;
            size++;
            return size - 1;
        }

        /** Whether HABIT h leads from a written NUMERAL to a true one. */
        boolean worksIn(int h, Numeral numeral) {
            if (h < 0 || h >= size) {
                return false;
            }
            if (written[h] == 0) {
                return true;
            }
            if (truly[h] == 0) {
                return numeral.size > 1 && numeral.holds(written[h]);
            }
            return numeral.canSwap(written[h], truly[h]);
        }

        /** How much more the true NUMERAL is than the written one (below 0: less). */
        int gainBy(int h) {
            return h >= 0 && h < size ? SIGN_VALUES[truly[h]] - SIGN_VALUES[written[h]] : 0;
        }
    }

    /** The READINGS of one NUMERAL: each VALUE once, with the least COST. */
    private static final class Readings {
        final int[] values = new int[MOST_HABITS + 1];
        final int[] costs = new int[MOST_HABITS + 1];
        int size;

        void gather(Numeral numeral, Habits habits) {
            size = 0;
            int plain = numeral.value();
            put(plain, 0);
            for (int h = 0; h < habits.size; h++) {
                if (habits.worksIn(h, numeral)) {
                    put(plain + habits.gainBy(h), habits.costs[h]);
                }
            }
        }

        int costOf(int value) {
            int i = find(value);
            return i == NONE ? NONE : costs[i];
        }

        private void put(int value, int cost) {
            int i = find(value);
            if (i != NONE) {
                costs[i] = Math.min(costs[i], cost);
            } else if (size < values.length) {
                values[size] = value;
                costs[size] = cost;
                size++;
            }
        }

        private int find(int value) {
            for (int i = 0; i < size; i++) {
                if (values[i] == value) {
                    return i;
                }
            }
            return NONE;
        }
    }

    /** Which letters are alike, and how far NAMES are apart. */
    private static final class Sounds {
        /** Letters are alike if they have the same group. */
        private final int[] groups = new int[LETTERS];
        /** How far what was taken of the first NAME is from each beginning of the other. */
        private final int[] row = new int[LONGEST_NAME + 1];

        Sounds() {
            for (int i = 0; i < LETTERS; i++) {
                groups[i] = i;
            }
        }

        boolean alike(int a, int b) {
            boolean letters = a >= 0 && a < LETTERS && b >= 0 && b < LETTERS;
            return letters && groups[a] == groups[b];
        }

        void join(int a, int b) {
            if (a < 0 || a >= LETTERS || b < 0 || b >= LETTERS) {
                return;
            }
            int from = groups[b];
            int into = groups[a];
            for (int i = 0; i < LETTERS; i++) {
                if (groups[i] == from) {
                    groups[i] = into;
                }
            }
        }

        int distance(Name from, Name to) {
            for (int j = 0; j <= to.size; j++) {
                row[j] = 2 * j;
            }
            for (int i = 0; i < from.size; i++) {
                int corner = row[0];
                row[0] += 2;
                for (int j = 1; j <= to.size; j++) {
                    int swapped = corner + swapCost(from.letters[i], to.letters[j - 1]);
                    corner = row[j];
                    row[j] = Math.min(swapped, 2 + Math.min(row[j], row[j - 1]));
                }
            }
            return row[to.size];
        }

        private int swapCost(int a, int b) {
            if (a == b) {
                return 0;
            }
            return alike(a - 'a', b - 'a') ? 1 : 3;
        }
    }

    /** The PLACINGS of one LIST as known on one DAY. */
    private static final class Placer {
        private static final int WIDTHS = WIDEST + 1;

        /** What each STATION costs at each PLACE. */
        final int[][] own = new int[MOST_STATIONS][PLACES];
        /** The least COST of each STATION at each PLACE and all behind it. */
        private final int[][] rest = new int[MOST_STATIONS][PLACES];
        /** The least COST of all ahead of one STATION at each PLACE. */
        private final int[] before = new int[PLACES];
        /** How many beginnings come to a PLACE, by how far above the least COST they lead. */
        private final long[] ways = new long[PLACES * WIDTHS];
        private final Readings[] readings = new Readings[MOST_STATIONS];
        private final Readings asked = new Readings();
        final int[] bestPlaces = new int[MOST_STATIONS];
        private int stations;
        private int unit;
        int least;

        Placer() {
            for (int i = 0; i < MOST_STATIONS; i++) {
                readings[i] = new Readings();
            }
        }

        int costOfValue(Numeral numeral, Habits habits, int value) {
            asked.gather(numeral, habits);
            return asked.costOf(value);
        }

        void takeRoute(Route route, Habits habits) {
            stations = Math.min(route.stations, MOST_STATIONS);
            unit = route.unit;
            for (int s = 0; s < stations - 1; s++) {
                readings[s].gather(route.numerals[s], habits);
            }
        }

        boolean hasPlacing() {
            return least < OUT_OF_REACH;
        }

        /** Goes from the last STATION to the first; the rows in own are filled. */
        void fillRest() {
            for (int s = stations - 1; s >= 0; s--) {
                for (int p = 0; p < PLACES; p++) {
                    int onward = s == stations - 1 ? 0 : leastOnward(s, p);
                    rest[s][p] = onward >= OUT_OF_REACH ? OUT_OF_REACH : own[s][p] + onward;
                }
            }
            least = OUT_OF_REACH;
            for (int p = 0; p < PLACES; p++) {
                least = Math.min(least, rest[0][p]);
            }
        }

        private int leastOnward(int s, int p) {
            int lowest = OUT_OF_REACH;
            for (int k = 0; k < readings[s].size; k++) {
                int next = placeBehind(s, p, k);
                if (next != NONE) {
                    lowest = Math.min(lowest, readings[s].costs[k] + rest[s + 1][next]);
                }
            }
            return lowest;
        }

        /** Where READING k leads from a PLACE; NONE if beyond the ROAD. */
        private int placeBehind(int s, int p, int k) {
            int next = p + unit * readings[s].values[k];
            return next > p && next <= LAST_PLACE ? next : NONE;
        }

        /** How much dearer it gets at the least by taking READING k to the next PLACE. */
        private int dearerBy(int s, int p, int k, int next) {
            return own[s][p] + readings[s].costs[k] + rest[s + 1][next] - rest[s][p];
        }

        /** Only where there is a PLACING. */
        void walkBest() {
            int at = 0;
            while (at < LAST_PLACE && rest[0][at] != least) {
                at++;
            }
            bestPlaces[0] = at;
            for (int s = 0; s < stations - 1; s++) {
                at = nextOfBest(s, at);
                bestPlaces[s + 1] = at;
            }
        }

        private int nextOfBest(int s, int p) {
            int first = LAST_PLACE;
            for (int k = 0; k < readings[s].size; k++) {
                int next = placeBehind(s, p, k);
                if (next != NONE && dearerBy(s, p, k, next) == 0) {
                    first = Math.min(first, next);
                }
            }
            return first;
        }

        void fillBefore(int station) {
            for (int p = 0; p < PLACES; p++) {
                before[p] = 0;
            }
            for (int s = 0; s < station && s < stations - 1; s++) {
                // A step leads to greater PLACES only: from the greatest on, one row is enough.
                for (int p = LAST_PLACE; p >= 0; p--) {
                    stepBefore(s, p);
                }
            }
        }

        private void stepBefore(int s, int p) {
            int upTo = before[p] + own[s][p];
            before[p] = OUT_OF_REACH;
            if (upTo >= OUT_OF_REACH) {
                return;
            }
            for (int k = 0; k < readings[s].size; k++) {
                int next = placeBehind(s, p, k);
                if (next != NONE) {
                    before[next] = Math.min(before[next], upTo + readings[s].costs[k]);
                }
            }
        }

        int leastPlace(int station, int d) {
            for (int p = 0; p < PLACES; p++) {
                if (isRival(station, p, d)) {
                    return p;
                }
            }
            return NONE;
        }

        int greatestPlace(int station, int d) {
            for (int p = LAST_PLACE; p >= 0; p--) {
                if (isRival(station, p, d)) {
                    return p;
                }
            }
            return NONE;
        }

        private boolean isRival(int station, int p, int d) {
            return before[p] + rest[station][p] <= least + d;
        }

        long countWithin(int d) {
            startWays(d);
            for (int s = 0; s < stations - 1; s++) {
                // As in fillBefore: each PLACE is left before anything comes to it.
                for (int p = LAST_PLACE; p >= 0; p--) {
                    if (holdsWays(p, d)) {
                        stepWays(s, p, d);
                    }
                }
            }
            long sum = 0;
            for (int i = 0; i < ways.length; i++) {
                sum += ways[i];
            }
            return sum;
        }

        private void startWays(int d) {
            for (int i = 0; i < ways.length; i++) {
                ways[i] = 0;
            }
            for (int p = 0; p < PLACES; p++) {
                int above = rest[0][p] - least;
                if (above >= 0 && above <= d && above < WIDTHS) {
                    ways[p * WIDTHS + above] = 1;
                }
            }
        }

        private boolean holdsWays(int p, int d) {
            for (int above = 0; above <= d && above < WIDTHS; above++) {
                if (ways[p * WIDTHS + above] != 0) {
                    return true;
                }
            }
            return false;
        }

        private void stepWays(int s, int p, int d) {
            for (int k = 0; k < readings[s].size; k++) {
                int next = placeBehind(s, p, k);
                if (next != NONE) {
                    moveWays(p, next, dearerBy(s, p, k, next), d);
                }
            }
            for (int above = 0; above < WIDTHS; above++) {
                ways[p * WIDTHS + above] = 0;
            }
        }

        private void moveWays(int p, int next, int dearer, int d) {
            if (dearer < 0) {
                return;
            }
            for (int above = 0; above + dearer <= d && above + dearer < WIDTHS; above++) {
                ways[next * WIDTHS + above + dearer] += ways[p * WIDTHS + above];
            }
        }
    }
}
