import java.util.NoSuchElementException;
import java.util.Random;

/**
 * Runs of calls by chance (the same each time), each answer held against Reference. What to ask next is
 * chosen by the Reference: an object may be used for no more than 512 calls, and those are all held against it.
 */
public final class ModelTest {
    private static final int RUNS = 300;
    private static final int CALLS = 512;
    private static final int[] WILD = {-1, -2, 0, 1, 601, 1000, 1001, Integer.MAX_VALUE, Integer.MIN_VALUE};

    private final Checks checks;
    private final Random chance;
    private final MileLists x = new MileLists();
    private final Reference y = new Reference();
    private final String[] names;
    /** Where each name truly lay; most lists and finds go by it, so that they fit together. */
    private final int[] truePlaces;
    private final int habitsWanted;
    private final int findsWanted;
    private int calls = 0;

    private ModelTest(Checks checks, int seed) {
        this.checks = checks;
        this.chance = new Random(seed);
        this.names = new String[6 + chance.nextInt(8)];
        this.truePlaces = new int[names.length];
        for (int i = 0; i < names.length; i++) {
            names[i] = madeName();
            truePlaces[i] = i == 0 ? 6 * chance.nextInt(30) : truePlaces[i - 1] + 6 * (1 + chance.nextInt(9));
        }
        habitsWanted = chance.nextInt(chance.nextInt(6) == 0 ? 25 : 9);
        findsWanted = chance.nextInt(chance.nextInt(2) == 0 ? 15 : 8);
        checks.part("seed " + seed);
    }

    public static void main(String[] args) {
        Checks checks = new Checks();
        int first = args.length > 0 ? Integer.parseInt(args[0]) : 0;
        int runs = args.length > 1 ? Integer.parseInt(args[1]) : RUNS;
        for (int seed = first; seed < first + runs; seed++) {
            new ModelTest(checks, seed).run();
            for (int i = 0; i < 20; i++) {
                new ModelTest(checks, seed * 1000 + i).readLists();
            }
        }
        checks.finish();
    }

    private void readLists() {
        for (int i = 0; i < 6; i++) {
            list();
        }
        for (int i = 0; i < 20; i++) {
            of();
            letter();
        }
    }

    private void run() {
        while (calls < CALLS - 16) {
            int kind = chance.nextInt(30);
            if (kind < 3) {
                if (y.count(0) < 4 || chance.nextInt(20) == 0) {
                    list();
                }
            } else if (kind < 6) {
                if (y.count(1) < findsWanted || chance.nextInt(20) == 0) {
                    ruin();
                }
            } else if (kind < 8) {
                if (y.count(2) < findsWanted || chance.nextInt(20) == 0) {
                    stone();
                }
            } else if (kind < 10) {
                if (y.count(3) < habitsWanted || chance.nextInt(30) == 0) {
                    habit();
                }
            } else {
                ask(kind);
            }
        }
    }

    private void ask(int kind) {
        switch (kind) {
            case 10: sound(); break;
            case 11: costs(); break;
            case 12: day(); break;
            case 13: case 14: apart(); break;
            case 15: case 16: reading(); break;
            case 17: case 18: best(); break;
            case 19: case 20: case 21: at(); break;
            case 22: case 23: span(); break;
            case 24: rivals(); break;
            case 25: case 26: shared(); break;
            case 27: of(); break;
            case 28: letter(); break;
            default: count(); break;
        }
    }

    private void due(String call, int got, int want) {
        calls++;
        checks.due("call " + calls + " " + call, got, want);
        y.startCall();
    }

    private int pick(int bound) {
        return chance.nextInt(40) == 0 ? WILD[chance.nextInt(WILD.length)] : chance.nextInt(bound);
    }

    private int pickDay() {
        return chance.nextInt(40) == 0 ? WILD[chance.nextInt(WILD.length)]
            : chance.nextInt(20) == 0 ? y.count(4) + 1
            : chance.nextBoolean() ? y.count(4) : chance.nextInt(y.count(4) + 1);
    }

    private int pickList() {
        return pick(chance.nextInt(8) == 0 ? 5 : Math.max(1, y.count(0)));
    }

    private int pickStation(int list) {
        int bound = list >= 0 && list < y.count(0) ? y.of(list, 1) : 3;
        return chance.nextInt(30) == 0 ? bound : chance.nextInt(30) == 0 ? bound - 1 : pick(bound);
    }

    private String madeName() {
        int length = chance.nextInt(20) == 0 ? 8 + chance.nextInt(2) : 1 + chance.nextInt(4);
        StringBuilder name = new StringBuilder();
        for (int i = 0; i < length; i++) {
            name.append((char) ('a' + (chance.nextInt(4) == 0 ? chance.nextInt(26) : chance.nextInt(4))));
        }
        return name.toString();
    }

    private String anyName() {
        if (chance.nextInt(30) == 0) {
            return new String[] {"", " a", "a ", "A", "a b", "abcdefghi", "`", "{", "a\n"}[chance.nextInt(9)];
        }
        return chance.nextInt(5) == 0 ? madeName() : names[chance.nextInt(names.length)];
    }

    private String anyNumeral() {
        StringBuilder signs = new StringBuilder();
        int most = chance.nextInt(10) == 0 ? 9 : 4;
        int length = 1 + chance.nextInt(most);
        int highest = chance.nextInt(6) == 0 ? 3 : chance.nextInt(3);
        for (int i = 0; i < length; i++) {
            signs.append("IVXL".charAt(highest));
            highest = Math.max(0, highest - chance.nextInt(3));
        }
        if (chance.nextInt(60) == 0) {
            signs.reverse();
        }
        return signs.toString();
    }

    /** How far it is truly from one name to the next, often with a scribe's fault in it. */
    private String trueNumeral(int i, int unit) {
        int miles = i + 1 < names.length ? (truePlaces[i + 1] - truePlaces[i]) / unit : 7;
        StringBuilder signs = new StringBuilder();
        for (int v = 3; v >= 0; v--) {
            int worth = new int[] {1, 5, 10, 50}[v];
            while (miles >= worth && signs.length() < 8) {
                signs.append("IVXL".charAt(v));
                miles -= worth;
            }
        }
        // the same fault in every list, at two steps of three
        if (i % 3 > 0 && signs.length() > 1) {
            signs.deleteCharAt(i % 2 == 0 ? 0 : signs.length() - 1);
        }
        return signs.toString();
    }

    private String blanks() {
        return new String[] {" ", "", "\n", "  ", " \n "}[chance.nextInt(5)];
    }

    private String listText(int unit) {
        StringBuilder text = new StringBuilder();
        int stations = chance.nextInt(6) == 0 ? 9 + chance.nextInt(3) : 2 + chance.nextInt(4);
        int first = chance.nextBoolean() ? 0 : chance.nextInt(names.length);
        for (int i = 0; i < stations; i++) {
            // most often the known names in turn, so that two lists share some steps
            int known = (first + i) % names.length;
            String name = chance.nextInt(12) > 0 ? names[known] : anyName();
            text.append(blanks()).append(name).append(blanks());
            if (i < stations - 1) {
                text.append(chance.nextInt(8) > 0 ? trueNumeral(known, unit) : anyNumeral());
            }
        }
        if (chance.nextInt(8) == 0) {
            int at = chance.nextInt(text.length() + 1);
            text.insert(at, new String[] {"a", "I", "L", "?", "Z", " ", "\u00ff", "\u0000", "\t"}[chance.nextInt(9)]);
        }
        if (chance.nextInt(12) == 0) {
            text.setLength(chance.nextInt(text.length() + 1));
        }
        return text.length() > 200 ? text.substring(0, 200) : text.toString();
    }

    private void type(String text) {
        if (chance.nextInt(12) > 0) {
            due("end 0", x.end(0), y.end(0));
        }
        for (int from = 0; from < text.length(); from += 20) {
            int[] n = Checks.numbers(text, from);
            due("feed " + text, x.feed(n[0], n[1], n[2], n[3], n[4]), y.feed(n));
        }
        int n = chance.nextInt(100) == 0 ? pick(201) : text.length();
        due("end " + n, x.end(n), y.end(n));
    }

    private void list() {
        int unit = chance.nextInt(15) == 0 ? pick(5) : 2 + chance.nextInt(2);
        if (chance.nextInt(10) > 0) {
            type(listText(unit == 2 ? 2 : 3));
        }
        due("list " + unit, x.list(unit), y.list(unit));
        due("place", x.place(), y.place());
    }

    private void ruin() {
        int known = chance.nextInt(names.length);
        boolean fits = chance.nextInt(3) > 0;
        type(fits ? names[known] : anyName());
        int at = fits ? truePlaces[known] : chance.nextInt(15) == 0 ? 598 + chance.nextInt(5) : pick(601);
        due("ruin " + at, x.ruin(at), y.ruin(at));
    }

    private void stone() {
        int known = chance.nextInt(names.length);
        boolean fits = chance.nextInt(3) > 0;
        type(fits ? names[known] : anyName());
        int miles = chance.nextInt(12) == 0 ? 198 + chance.nextInt(5) : pick(60);
        int unit = chance.nextInt(20) == 0 ? pick(5) : 2 + chance.nextInt(2);
        int at = fits ? truePlaces[known] + (chance.nextBoolean() ? miles * unit : -miles * unit)
            : chance.nextInt(15) == 0 ? 598 + chance.nextInt(5) : pick(601);
        due("stone " + at + " " + miles + " " + unit, x.stone(at, miles, unit), y.stone(at, miles, unit));
    }

    private void habit() {
        int truly = pick(chance.nextInt(10) == 0 ? 6 : 5);
        int written = chance.nextInt(2) == 0 ? 0 : pick(chance.nextInt(10) == 0 ? 6 : 5);
        int cost = chance.nextInt(12) == 0 ? 19 + chance.nextInt(3) : written == 0 ? pick(5) : pick(12);
        due("habit " + truly + " " + written + " " + cost, x.habit(truly, written, cost), y.habit(truly, written, cost));
    }

    private void sound() {
        int a = chance.nextInt(10) == 0 ? pick(27) : pick(6);
        int b = chance.nextInt(10) == 0 ? pick(27) : pick(6);
        due("sound " + a + " " + b, x.sound(a, b) ? 1 : 0, y.sound(a, b) ? 1 : 0);
    }

    private void costs() {
        int lost = pick(chance.nextInt(3) == 0 ? 53 : 12);
        int moved = pick(chance.nextInt(3) == 0 ? 53 : 12);
        due("costs " + lost + " " + moved, x.costs(lost, moved) ? 1 : 0, y.costs(lost, moved) ? 1 : 0);
    }

    private void day() {
        int n = pick(chance.nextInt(10) == 0 ? 1003 : 4);
        due("day " + n, x.day(n), y.day(n));
    }

    private void apart() {
        type(anyName());
        int list = pickList();
        int station = pickStation(list);
        due("apart " + list + " " + station, x.apart(list, station), y.apart(list, station));
    }

    private void reading() {
        int list = pickList();
        int station = pickStation(list);
        int v = pick(30);
        boolean numeral = list >= 0 && list < y.count(0) && station >= 0 && station < y.of(list, 1) - 1;
        if (chance.nextInt(3) > 0 && numeral) {
            v = y.of(list, 10 + station) + new int[] {0, 1, -1, 4, -4, 5, -5, 9, -9, 10, -10, 40, -40, 50}[chance.nextInt(14)];
        }
        due("reading " + list + " " + station + " " + v, x.reading(list, station, v), y.reading(list, station, v));
    }

    private void best() {
        int list = pickList();
        int day = pickDay();
        due("best " + list + " " + day, x.best(list, day), y.best(list, day));
    }

    private void at() {
        int list = pickList();
        int day = pickDay();
        int s = pickStation(list);
        due("at " + list + " " + day + " " + s, x.at(list, day, s), y.at(list, day, s));
    }

    private void span() {
        int list = pickList();
        int day = pickDay();
        int s = pickStation(list);
        int d = pick(chance.nextInt(20) == 0 ? 23 : 21);
        int what = chance.nextInt(20) == 0 ? pick(3) : chance.nextInt(2);
        due("span " + list + " " + day + " " + d + " " + s + " " + what,
            x.span(list, day, d, s, what), y.span(list, day, d, s, what));
    }

    private void rivals() {
        int list = pickList();
        int day = pickDay();
        int d = pick(chance.nextInt(20) == 0 ? 23 : 21);
        due("rivals " + list + " " + day + " " + d, x.rivals(list, day, d), y.rivals(list, day, d));
    }

    private void shared() {
        int a = pickList();
        int b = pickList();
        int day = pickDay();
        due("shared " + a + " " + b + " " + day, x.shared(a, b, day), y.shared(a, b, day));
    }

    private void of() {
        int list = pickList();
        int what = pick(32);
        int throwing = 0;
        int want = 0;
        try {
            want = y.of(list, what);
        } catch (NoSuchElementException e) {
            throwing = 1;
        }
        due("of " + list + " " + what + " throws", Checks.ofThrows(x, list, what), throwing);
        if (throwing == 0) {
            due("of " + list + " " + what, x.of(list, what), want);
        }
    }

    private void letter() {
        int list = pickList();
        int s = pickStation(list);
        int i = pick(10);
        due("letter " + list + " " + s + " " + i, x.letter(list, s, i), y.letter(list, s, i));
    }

    private void count() {
        int what = pick(45);
        due("count " + what, x.count(what), y.count(what));
    }
}
