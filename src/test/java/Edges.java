import java.io.IOException;
import java.nio.file.Files;
import java.nio.file.Path;
import java.util.Arrays;
import java.util.Map;
import java.util.TreeMap;
import java.util.function.Supplier;
import java.util.function.ToIntFunction;

/**
 * What the edge tests share: each test quotes the sentence that it holds the class to, and the quotes
 * are held against the document itself, so that no sentence is misquoted and none is left out.
 */
final class Edges {
    static final int LOW = Integer.MIN_VALUE;
    static final int HIGH = Integer.MAX_VALUE;

    private final Checks checks = new Checks();
    private final String document;
    /** Of each part of the document which signs have been quoted. */
    private final Map<String, boolean[]> quoted = new TreeMap<>();

    Edges() {
        document = readDocument();
    }

    /** Null where there is none to be read: then the quotes are not looked up. */
    private static String readDocument() {
        Path path = Path.of("..", "shared", "DOC.md");
        try {
            return Files.isReadable(path) ? Files.readString(path) : null;
        } catch (IOException e) {
            return null;
        }
    }

    /** The text under a heading of the document, each run of blanks one blank. */
    private String textOf(String heading) {
        for (String part : document.split("(?m)^## ")) {
            String title = part.split("\n", 2)[0];
            if (title.equals(heading) || title.startsWith(heading + ":")) {
                return part.substring(title.length()).replaceAll("\\s+", " ");
            }
        }
        return "";
    }

    /** What follows tests this sentence, as it stands under that heading. */
    void sentence(String heading, String quote) {
        checks.part(heading + ": \"" + quote + "\"");
        if (document == null) {
            return;
        }
        String text = textOf(heading);
        boolean[] marks = quoted.computeIfAbsent(heading, h -> new boolean[text.length()]);
        int at = text.indexOf(quote);
        checks.due("stands in the document", at >= 0, true);
        if (at >= 0) {
            Arrays.fill(marks, at, at + quote.length(), true);
        }
    }

    /** Fails if anything is left under a heading that no test has quoted. */
    void wholeQuoted(String heading) {
        checks.part(heading);
        if (document == null) {
            return;
        }
        String text = textOf(heading);
        boolean[] marks = quoted.getOrDefault(heading, new boolean[text.length()]);
        StringBuilder left = new StringBuilder();
        for (int i = 0; i < text.length(); i++) {
            left.append(marks[i] ? ' ' : text.charAt(i));
        }
        String words = left.toString().replaceAll("```(text)?|`[^`]*`|==== \\d\\.", " ").replaceAll("[^A-Za-z0-9]+", " ");
        checks.due("words that no test has quoted:" + words, words.isBlank(), true);
    }

    void due(String call, long got, long want) {
        checks.due(call, got, want);
    }

    void due(String call, boolean got, boolean want) {
        checks.due(call, got, want);
    }

    void finish() {
        checks.finish();
    }

    /** The call is refused, and leaves the room as it was, the TAPE too. */
    void refused(String call, Supplier<MileLists> room, ToIntFunction<MileLists> made, int want) {
        MileLists x = room.get();
        due(call, made.applyAsInt(x), want);
        dueSame(call + " changes nothing", seen(x), seen(room.get()));
    }

    /** The call reads the TAPE (it is empty then), is refused, and leaves all else as it was. */
    void refusedAndRead(String call, Supplier<MileLists> room, ToIntFunction<MileLists> made, int want) {
        MileLists x = room.get();
        due(call, made.applyAsInt(x), want);
        due(call + " empties the tape", x.count(5), 0);
        MileLists twin = room.get();
        twin.end(0);
        dueSame(call + " changes nothing but the tape", seen(x), seen(twin));
    }

    private void dueSame(String what, String got, String want) {
        due(got.equals(want) ? what : what + "\n  " + got + "\n  " + want, got.equals(want), true);
    }

    /** Something of everything, the latest fault at place 4, and a text on the TAPE. */
    static MileLists room(String tape) {
        MileLists x = new MileLists();
        Checks.list(x, 2, "roma XII ostia V portus");
        Checks.list(x, 3, "roma XII ostia VI alba");
        Checks.list(x, 2, "a I ?");
        Checks.ruin(x, 100, "roma");
        Checks.stone(x, 112, 6, 2, "ostia");
        x.day(3);
        Checks.ruin(x, 126, "ostja");
        Checks.stone(x, 10, 5, 2, "roma");
        x.day(2);
        x.habit(1, 0, 2);
        x.habit(3, 2, 4);
        x.sound('i' - 'a', 'j' - 'a');
        x.costs(11, 7);
        Checks.type(x, tape);
        return x;
    }

    /** As many lists, ruins, stones and habits as there may be, and a text on the TAPE. */
    static MileLists fullRoom(String tape) {
        MileLists x = new MileLists();
        for (String text : new String[] {"roma XII ostia", "roma V alba", "a I b I c", "alba L roma"}) {
            Checks.list(x, 2, text);
        }
        for (int i = 0; i < 12; i++) {
            Checks.ruin(x, 100 + i, i % 2 == 0 ? "roma" : "ostia");
            Checks.stone(x, 50 * i, 1 + i, 3, i % 3 == 0 ? "roma" : "alba");
        }
        for (int i = 0; i < 20; i++) {
            x.habit(1 + i % 4, 0, 20 - i);
        }
        x.sound(0, 1);
        Checks.type(x, tape);
        return x;
    }

    /** All that a room answers. It is used up by it: last, the TAPE and the SOUNDS are tried. */
    static String seen(MileLists x) {
        StringBuilder all = new StringBuilder();
        for (int what = 0; what < 43; what++) {
            all.append(x.count(what)).append(' ');
        }
        all.append("place ").append(x.place());
        for (int list = 0; list < x.count(0); list++) {
            seeList(x, list, all);
            for (int other = 0; other < list; other++) {
                all.append(" shared ").append(x.shared(list, other, x.count(4)));
            }
        }
        all.append(" tape ").append(x.count(0) < 4 ? x.list(2) : x.apart(0, 0)).append(' ').append(x.place());
        if (x.letter(2, 0, 0) != -1) {
            seeList(x, 2, all);
        }
        all.append(" sounds ");
        for (int i = 1; i < 26; i++) {
            all.append(x.sound(0, i) ? 1 : 0);
        }
        return all.toString();
    }

    private static void seeList(MileLists x, int list, StringBuilder all) {
        int stations = x.of(list, 1);
        int today = x.count(4);
        all.append("\n  list ").append(x.of(list, 0)).append(' ').append(x.best(list, 0)).append(' ').append(x.best(list, today));
        all.append(' ').append(x.rivals(list, today, 20));
        for (int s = 0; s < stations; s++) {
            all.append(' ');
            int letters = x.of(list, 20 + s);
            for (int i = 0; i < letters; i++) {
                all.append((char) x.letter(list, s, i));
            }
            all.append(' ').append(x.at(list, 0, s)).append(' ').append(x.at(list, today, s));
            all.append(' ').append(x.span(list, today, 9, s, 0)).append(' ').append(x.span(list, today, 9, s, 1));
            if (s < stations - 1) {
                int value = x.of(list, 10 + s);
                for (int more : new int[] {-1, 0, 1, 5, 10, 50}) {
                    all.append(' ').append(x.reading(list, s, value + more));
                }
            }
        }
    }
}
