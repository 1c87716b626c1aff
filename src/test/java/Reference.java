import java.util.ArrayList;
import java.util.HashMap;
import java.util.HashSet;
import java.util.List;
import java.util.Map;
import java.util.NoSuchElementException;
import java.util.Set;
import java.util.TreeMap;
import java.util.regex.Matcher;
import java.util.regex.Pattern;

/** The document once more, slow and with other means: what ModelTest holds the class against. */
final class Reference {
    private static final String SIGNS = " IVXL";
    private static final int NEVER = 1 << 28;

    private record Station(String name, String numeral) { }
    private record Listing(int unit, List<Station> stations) { }
    private record Ruin(int place, String name, int found) { }
    private record Stone(int place, String name, int away, int found) { }
    private record Habit(String truly, String written, int cost) { }

    private String tape = "";
    private final List<Listing> lists = new ArrayList<>();
    private final List<Ruin> ruins = new ArrayList<>();
    private final List<Stone> stones = new ArrayList<>();
    private final List<Habit> habits = new ArrayList<>();
    private final Set<String> told = new HashSet<>();
    private int faultPlace = -1;
    private int lost = 10;
    private int moved = 6;
    private int today = 0;

    int feed(int... numbers) {
        StringBuilder more = new StringBuilder();
        for (int number : numbers) {
            for (int shift = 24; shift >= 0; shift -= 8) {
                more.append((char) ((number >> shift) & 0xFF));
            }
        }
        if (tape.length() + more.length() > 200) {
            return -1;
        }
        tape += more;
        return tape.length();
    }

    int end(int n) {
        if (n < 0 || n > tape.length()) {
            return -1;
        }
        tape = tape.substring(0, n);
        return n;
    }

    int list(int unit) {
        if (unit != 2 && unit != 3 || lists.size() == 4) {
            return -1;
        }
        String text = readTape();
        List<Station> stations = new ArrayList<>();
        int kind = parse(text, stations);
        if (kind != 0) {
            return -kind - 1;
        }
        faultPlace = -1;
        lists.add(new Listing(unit, stations));
        return lists.size() - 1;
    }

    /** The kind of the first fault, 0 without one. */
    private int parse(String text, List<Station> stations) {
        List<String> names = new ArrayList<>();
        List<String> numerals = new ArrayList<>();
        Matcher tokens = Pattern.compile("[a-z]+|[IVXL]+|[^ \\n]", Pattern.DOTALL).matcher(text);
        while (tokens.find()) {
            String token = tokens.group();
            faultPlace = tokens.start();
            if (names.size() == numerals.size()) {
                if (!isName(token)) {
                    return 1;
                }
                if (names.size() == 10) {
                    return 2;
                }
                if (names.contains(token)) {
                    return 3;
                }
                names.add(token);
            } else {
                if (token.length() > 8 || !isSorted(token)) {
                    return 1;
                }
                numerals.add(token);
            }
        }
        faultPlace = text.length();
        if (names.size() < 2 || names.size() == numerals.size()) {
            return 1;
        }
        for (int i = 0; i < names.size(); i++) {
            stations.add(new Station(names.get(i), i < numerals.size() ? numerals.get(i) : null));
        }
        return 0;
    }

    private static boolean isName(String text) {
        return text.matches("[a-z]{1,8}");
    }

    private static boolean isSorted(String signs) {
        return signs.matches("L*X*V*I*") && !signs.isEmpty();
    }

    private String readTape() {
        String text = tape;
        tape = "";
        return text;
    }

    int place() {
        return faultPlace;
    }

    int ruin(int at) {
        String name = readTape();
        boolean taken = ruins.stream().anyMatch(r -> r.place == at);
        if (!isName(name) || at < 0 || at > 600 || taken || ruins.size() == 12) {
            return -1;
        }
        ruins.add(new Ruin(at, name, today));
        return ruins.size() - 1;
    }

    int stone(int at, int miles, int unit) {
        String name = readTape();
        boolean numbers = at >= 0 && at <= 600 && miles >= 1 && miles <= 200 && (unit == 2 || unit == 3);
        if (!isName(name) || !numbers || stones.size() == 12) {
            return -1;
        }
        stones.add(new Stone(at, name, miles * unit, today));
        return stones.size() - 1;
    }

    int habit(int truly, int written, int cost) {
        boolean signs = truly >= 0 && truly <= 4 && written >= 0 && written <= 4 && truly != written;
        if (!signs || cost < 1 || cost > 20 || habits.size() == 20) {
            return -1;
        }
        habits.add(new Habit(sign(truly), sign(written), cost));
        return habits.size() - 1;
    }

    private static String sign(int number) {
        return number == 0 ? "" : SIGNS.substring(number, number + 1);
    }

    boolean sound(int a, int b) {
        if (a < 0 || a > 25 || b < 0 || b > 25 || alike((char) ('a' + a), (char) ('a' + b))) {
            return false;
        }
        told.add("" + (char) ('a' + a) + (char) ('a' + b));
        return true;
    }

    /** By a walk from letter to letter. */
    private boolean alike(char a, char b) {
        Set<Character> reached = new HashSet<>(List.of(a));
        boolean grown = true;
        while (grown) {
            grown = false;
            for (String pair : told) {
                char c = pair.charAt(0);
                char d = pair.charAt(1);
                if (reached.contains(c) != reached.contains(d)) {
                    reached.add(c);
                    reached.add(d);
                    grown = true;
                }
            }
        }
        return reached.contains(b);
    }

    boolean costs(int newLost, int newMoved) {
        if (newLost < 0 || newLost > 50 || newMoved < 0 || newMoved > 50) {
            return false;
        }
        lost = newLost;
        moved = newMoved;
        return true;
    }

    int day(int n) {
        if (n < 0 || n > 1000 || today + n > 100000) {
            return -1;
        }
        today += n;
        return today;
    }

    int apart(int list, int station) {
        String name = readTape();
        if (!isName(name) || !hasStation(list, station)) {
            return -1;
        }
        return distance(name, lists.get(list).stations.get(station).name);
    }

    private int distance(String a, String b) {
        if (a.isEmpty() || b.isEmpty()) {
            return 2 * (a.length() + b.length());
        }
        if (distances.containsKey(a + " " + b)) {
            return distances.get(a + " " + b);
        }
        char c = a.charAt(0);
        char d = b.charAt(0);
        int swap = c == d ? 0 : alike(c, d) ? 1 : 3;
        int far = Math.min(swap + distance(a.substring(1), b.substring(1)),
            2 + Math.min(distance(a.substring(1), b), distance(a, b.substring(1))));
        distances.put(a + " " + b, far);
        return far;
    }

    /** Holds within one call only: it is cleared before each (see ModelTest). */
    private final Map<String, Integer> distances = new HashMap<>();

    void startCall() {
        distances.clear();
        bestRow = null;
        minima.clear();
        numbers.clear();
        ownCosts.clear();
        allReadings.clear();
    }

    int reading(int list, int station, int v) {
        if (!hasStation(list, station) || lists.get(list).stations.get(station).numeral == null) {
            return -1;
        }
        return readings(lists.get(list).stations.get(station).numeral).getOrDefault(v, -1);
    }

    private final Map<String, TreeMap<Integer, Integer>> allReadings = new HashMap<>();

    private TreeMap<Integer, Integer> readings(String numeral) {
        return allReadings.computeIfAbsent(numeral, this::newReadings);
    }

    private TreeMap<Integer, Integer> newReadings(String numeral) {
        TreeMap<Integer, Integer> found = new TreeMap<>();
        found.put(value(numeral), 0);
        for (Habit h : habits) {
            for (int i = 0; i + h.written.length() <= numeral.length(); i++) {
                if (numeral.startsWith(h.written, i)) {
                    String other = numeral.substring(0, i) + h.truly + numeral.substring(i + h.written.length());
                    if (isSorted(other) && other.length() <= 9) {
                        found.merge(value(other), h.cost, Math::min);
                    }
                }
            }
        }
        return found;
    }

    private static int value(String numeral) {
        return numeral.chars().map(c -> c == 'I' ? 1 : c == 'V' ? 5 : c == 'X' ? 10 : 50).sum();
    }

    private boolean hasStation(int list, int station) {
        return list >= 0 && list < lists.size() && station >= 0 && station < lists.get(list).stations.size();
    }

    private boolean known(int list, int day) {
        return list >= 0 && list < lists.size() && day >= 0 && day <= today;
    }

    private final Map<Integer, Integer> ownCosts = new HashMap<>();

    private int ownCost(Listing l, int day, int s, int p) {
        int key = s * 1000 + p;
        if (!ownCosts.containsKey(key)) {
            String name = l.stations.get(s).name;
            int cost = lost;
            for (Ruin r : ruins) {
                if (r.found <= day && r.place == p) {
                    cost = distance(r.name, name);
                }
            }
            for (Stone t : stones) {
                boolean off = p + t.away != t.place && p - t.away != t.place;
                if (t.found <= day && t.name.equals(name) && off) {
                    cost += moved;
                }
            }
            ownCosts.put(key, cost);
        }
        return ownCosts.get(key);
    }

    private final Map<Integer, Integer> minima = new HashMap<>();

    private int minimum(Listing l, int day, int s, int p) {
        if (p > 600) {
            return NEVER;
        }
        if (s == l.stations.size() - 1) {
            return ownCost(l, day, s, p);
        }
        int key = s * 1000 + p;
        if (!minima.containsKey(key)) {
            int low = NEVER;
            for (Map.Entry<Integer, Integer> r : readings(l.stations.get(s).numeral).entrySet()) {
                low = Math.min(low, r.getValue() + minimum(l, day, s + 1, p + l.unit * r.getKey()));
            }
            minima.put(key, Math.min(NEVER, low + ownCost(l, day, s, p)));
        }
        return minima.get(key);
    }

    private int minimum(Listing l, int day) {
        int low = NEVER;
        for (int p = 0; p <= 600; p++) {
            low = Math.min(low, minimum(l, day, 0, p));
        }
        return low;
    }

    int best(int list, int day) {
        if (!known(list, day)) {
            return -1;
        }
        int low = minimum(lists.get(list), day);
        return low == NEVER ? -2 : low;
    }

    private int[] bestRow;

    /** The first row that costs the least; null without a placing. */
    private int[] bestRow(int list, int day) {
        startCall();
        Listing l = lists.get(list);
        int low = minimum(l, day);
        for (int p = 0; p <= 600 && low < NEVER && bestRow == null; p++) {
            seekBest(l, day, new int[l.stations.size()], 0, p, low);
        }
        return bestRow;
    }

    private void seekBest(Listing l, int day, int[] row, int s, int p, int budget) {
        if (bestRow != null || p > 600 || minimum(l, day, s, p) > budget) {
            return;
        }
        row[s] = p;
        if (s == row.length - 1) {
            bestRow = row.clone();
            return;
        }
        int left = budget - ownCost(l, day, s, p);
        // the tree map goes through the values from the least on
        readings(l.stations.get(s).numeral).forEach(
            (value, cost) -> seekBest(l, day, row, s + 1, p + l.unit * value, left - cost));
    }

    int at(int list, int day, int station) {
        if (!known(list, day) || !hasStation(list, station)) {
            return -1;
        }
        int[] row = bestRow(list, day);
        return row == null ? -1 : row[station];
    }

    int span(int list, int day, int d, int station, int what) {
        if (!known(list, day) || !hasStation(list, station) || d < 0 || d > 20 || what < 0 || what > 1) {
            return -1;
        }
        Listing l = lists.get(list);
        int low = minimum(l, day);
        if (low == NEVER) {
            return -1;
        }
        int[] ends = {NEVER, -1};
        Set<Long> seen = new HashSet<>();
        for (int p = 0; p <= 600; p++) {
            visit(l, day, station, 0, p, low + d, ends, seen);
        }
        return ends[what];
    }

    private void visit(Listing l, int day, int station, int s, int p, int budget, int[] ends, Set<Long> seen) {
        if (p > 600 || minimum(l, day, s, p) > budget || !seen.add((s * 1000L + p) * 10000 + budget)) {
            return;
        }
        if (s == station) {
            ends[0] = Math.min(ends[0], p);
            ends[1] = Math.max(ends[1], p);
            return;
        }
        int left = budget - ownCost(l, day, s, p);
        readings(l.stations.get(s).numeral).forEach(
            (value, cost) -> visit(l, day, station, s + 1, p + l.unit * value, left - cost, ends, seen));
    }

    int rivals(int list, int day, int d) {
        if (!known(list, day) || d < 0 || d > 20) {
            return -1;
        }
        Listing l = lists.get(list);
        int low = minimum(l, day);
        if (low == NEVER) {
            return -1;
        }
        long sum = 0;
        for (int p = 0; p <= 600; p++) {
            sum += number(l, day, 0, p, low + d);
        }
        return (int) Math.min(sum, 1000000);
    }

    private final Map<Long, Long> numbers = new HashMap<>();

    private long number(Listing l, int day, int s, int p, int budget) {
        if (p > 600 || minimum(l, day, s, p) > budget) {
            return 0;
        }
        if (s == l.stations.size() - 1) {
            return 1;
        }
        long key = (s * 1000L + p) * 10000 + budget;
        if (!numbers.containsKey(key)) {
            int left = budget - ownCost(l, day, s, p);
            long sum = 0;
            for (Map.Entry<Integer, Integer> r : readings(l.stations.get(s).numeral).entrySet()) {
                sum += number(l, day, s + 1, p + l.unit * r.getKey(), left - r.getValue());
            }
            numbers.put(key, sum);
        }
        return numbers.get(key);
    }

    int shared(int a, int b, int day) {
        if (a == b || !known(a, day) || !known(b, day)) {
            return -1;
        }
        Set<String> both = faults(a, day);
        both.retainAll(faults(b, day));
        return both.size();
    }

    private Set<String> faults(int list, int day) {
        Set<String> found = new HashSet<>();
        int[] row = bestRow(list, day);
        Listing l = lists.get(list);
        for (int i = 0; row != null && i < row.length - 1; i++) {
            Station s = l.stations.get(i);
            if (row[i + 1] - row[i] != l.unit * value(s.numeral)) {
                found.add(s.name + " " + s.numeral + " " + l.stations.get(i + 1).name);
            }
        }
        return found;
    }

    int of(int list, int what) {
        if (list < 0 || list >= lists.size()) {
            throw new NoSuchElementException();
        }
        List<Station> stations = lists.get(list).stations;
        Map<Integer, Integer> answers = new HashMap<>();
        answers.put(0, lists.get(list).unit);
        answers.put(1, stations.size());
        for (int i = 0; i < stations.size(); i++) {
            answers.put(20 + i, stations.get(i).name.length());
            if (stations.get(i).numeral != null) {
                answers.put(10 + i, value(stations.get(i).numeral));
            }
        }
        if (!answers.containsKey(what)) {
            throw new NoSuchElementException();
        }
        return answers.get(what);
    }

    int letter(int list, int station, int i) {
        if (!hasStation(list, station)) {
            return -1;
        }
        String name = lists.get(list).stations.get(station).name;
        return i < 0 || i >= name.length() ? -1 : name.charAt(i);
    }

    int count(int what) {
        int[] plain = {lists.size(), ruins.size(), stones.size(), habits.size(), today, tape.length(), lost, moved};
        if (what >= 0 && what < plain.length) {
            return plain[what];
        }
        for (int r = 0; r < ruins.size(); r++) {
            if (what == 10 + r) {
                return ruins.get(r).place;
            }
            if (what == 30 + r) {
                return ruins.get(r).found;
            }
        }
        return -1;
    }
}
