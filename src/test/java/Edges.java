import java.nio.file.Files;
import java.nio.file.Path;
import java.util.ArrayList;
import java.util.Arrays;
import java.util.LinkedHashMap;
import java.util.List;
import java.util.Map;
import java.util.function.Consumer;
import java.util.function.ToIntFunction;

/**
 * What the tests of edges share. Each check stands under a heading and a sentence of the document; a sentence that the
 * document does not have, and one that no test has named, are wrong too.
 */
final class Edges {
    static final int BAD = -1, NO = -2, FULL = -3, NONE = -4, ZERO = 100000;
    static final int LEAST = Integer.MIN_VALUE, MOST = Integer.MAX_VALUE;
    /** Of the document, what is no sentence of its own: the survey at its begin, the calls' heads, marks. */
    private static final String[] NO_SENTENCES = {
        "Told in the gaps: .*? first fault\\.", "======== \\d", "```(text)?", "^`[^`]*`:",
        "Ahead of the calls .*? the interface says: ---- [a-z ]*\\."};
    private static final int MOST_CALLS = 512;
    /** What is done ahead of a refused call: at the most a whole text is written, and a few calls beside it. */
    private static final int MOST_AHEAD = 210;

    private static final Map<String, String> document = readDocument();
    private static final Map<String, List<String>> named = new LinkedHashMap<>();
    private static String heading = "";
    private static String sentence = "";
    private static boolean checked = true;
    private static int wrong = 0;

    private Edges() { }

    // ---- sentences

    /** What is checked from here on is this sentence, under this heading of the document. */
    static void of(String ofHeading, String ofSentence) {
        if (!checked) complain("no check under it");
        heading = ofHeading;
        sentence = ofSentence;
        checked = false;
        named.computeIfAbsent(heading, h -> new ArrayList<>()).add(sentence);
        if (!document.getOrDefault(heading, "").contains(sentence)) complain("the document has no such sentence there");
    }

    static void of(int promise, String ofSentence) {
        of("Promise " + promise, ofSentence);
    }

    /** Ends a test: of the sentences under the headings that are its own, each one must have been named. */
    static void end(String test, String... headings) {
        of(headings[0], "");
        checked = true;
        for (String one : headings) {
            heading = one;
            sentence = restOf(one);
            if (sentence.chars().anyMatch(Character::isLetterOrDigit)) complain("no test names this");
        }
        System.out.println(wrong == 0 ? test + ": all as due" : test + ": " + wrong + " wrong");
        if (wrong != 0) System.exit(1);
    }

    static String[] promises(int first, int last) {
        String[] headings = new String[last - first + 1];
        for (int i = 0; i < headings.length; i++) headings[i] = "Promise " + (first + i);
        return headings;
    }

    private static String restOf(String one) {
        String rest = document.getOrDefault(one, "the document has no such heading");
        for (String pattern : NO_SENTENCES) rest = rest.replaceAll(pattern, " ");
        List<String> longestFirst = new ArrayList<>(named.getOrDefault(one, List.of()));
        longestFirst.sort((a, b) -> b.length() - a.length());
        for (String done : longestFirst) rest = rest.replace(done, " ");
        return rest.trim();
    }

    private static Map<String, String> readDocument() {
        Map<String, String> sections = new LinkedHashMap<>();
        String name = "";
        try {
            for (String line : Files.readAllLines(Path.of("../shared/DOC.md"))) {
                if (line.startsWith("## ")) name = line.substring(3).replaceAll("^(Promise \\d+):.*", "$1");
                // The document numbers two parts of its terms; the second one begins in the midst of a section.
                if (line.startsWith("======== 2")) name = "Terms 2";
                if (!line.startsWith("## ")) sections.merge(name, line, (a, b) -> a + " " + b);
            }
        } catch (java.io.IOException e) {
            throw new IllegalStateException("../shared/DOC.md cannot be read", e);
        }
        sections.replaceAll((h, text) -> text.replaceAll("\\s+", " ").trim());
        return sections;
    }

    // ---- checks

    private static void complain(String what) {
        wrong++;
        System.out.println(heading + " \"" + sentence + "\": " + what);
    }

    static void due(String call, int got, int want) {
        checked = true;
        if (got != want) complain(call + " answered " + got + ", due is " + want);
    }

    static void dueAll(String calls, int[] got, int... want) {
        checked = true;
        if (!Arrays.equals(got, want)) {
            complain(calls + " answered " + Arrays.toString(got) + ", due is " + Arrays.toString(want));
        }
    }

    static GapTellings written(String text) {
        GapTellings x = new GapTellings();
        write(x, text);
        return x;
    }

    static void write(GapTellings x, String text) {
        for (char c : text.toCharArray()) x.write(c);
    }

    static GapTellings laid(String text) {
        GapTellings x = written(text);
        if (x.lay() < 0) complain("is not laid: " + text);
        return x;
    }

    /** A film in which these are placed: picture, version, tick, and again. */
    static GapTellings laid(String text, int... places) {
        GapTellings x = laid(text);
        for (int i = 0; i + 2 < places.length; i += 3) {
            if (x.place(places[i], places[i + 1], places[i + 2]) < 0) complain("is not placed: " + places[i] + " in " + text);
        }
        return x;
    }

    static void relaid(GapTellings x, String text) {
        x.wipe();
        write(x, text);
        if (x.lay() < 0) complain("is not laid: " + text);
    }

    static void faultIs(String text, int place) {
        due("fault() of " + text, written(text).fault(), place);
    }

    /** The last item of a text is not so: its FAULT is there, and the text is not laid. */
    static void lastIsWrong(String ahead, String last) {
        faultIs(ahead, NONE);
        faultIs(ahead + last, ahead.length());
        due("lay() of " + ahead + last, written(ahead + last).lay(), NO);
    }

    static void isRight(String text) {
        faultIs(text, NONE);
        due("lay() of " + text + " is below zero", Math.min(0, written(text).lay()), 0);
    }

    /** The first numbers that are none of a range on each side, and those farthest out. */
    static int[] outside(int first, int last) {
        return new int[] {first - 1, last + 1, LEAST, MOST};
    }

    static int[] ticks(GapTellings x) {
        int[] all = new int[x.count(0)];
        for (int t = 0; t < all.length; t++) all[t] = x.tick(t);
        return all;
    }

    /** Version and tick of each picture of BEST. */
    static int[] bestPlan(GapTellings x) {
        int[] all = new int[2 * x.count(2)];
        for (int i = 0; i < all.length; i++) all[i] = x.bestOf(i / 2, i % 2);
        return all;
    }

    static int[] greedyPlan(GapTellings x) {
        int[] all = new int[2 * x.count(2)];
        for (int i = 0; i < all.length; i++) all[i] = x.greedyOf(i / 2, i % 2);
        return all;
    }

    static int[] placed(GapTellings x) {
        int[] all = new int[2 * x.count(2)];
        for (int i = 0; i < all.length; i++) all[i] = x.picture(i / 2, 5 + i % 2);
        return all;
    }

    // ---- "nothing changes then"

    /** A call that is refused, and then all that can be asked, as on an object that never had that call. */
    static void refused(String name, String text, Consumer<GapTellings> ahead, ToIntFunction<GapTellings> call, int want) {
        GapTellings with = text.isEmpty() ? new GapTellings() : laid(text);
        GapTellings without = text.isEmpty() ? new GapTellings() : laid(text);
        ahead.accept(with);
        ahead.accept(without);
        due(name, call.applyAsInt(with), want);
        List<Integer> got = lookAtAll(with);
        List<Integer> due = lookAtAll(without);
        if (!got.equals(due)) complain("behind " + name + " all answers " + got + ", without it " + due);
        if (text.length() + MOST_AHEAD + got.size() > MOST_CALLS) complain(name + " is tested with too many calls");
    }

    static void refused(String name, String text, ToIntFunction<GapTellings> call, int want) {
        refused(name, text, x -> { }, call, want);
    }

    private static List<Integer> lookAtAll(GapTellings x) {
        List<Integer> all = new ArrayList<>();
        for (int what = 0; what <= 12; what++) all.add(x.count(what));
        int ticks = all.get(0), sounds = all.get(1), pictures = all.get(2), silences = x.silence(-1, 0);
        all.addAll(List.of(silences, x.fault(), x.value(), x.best(), x.greedy()));
        for (int t = 0; t < ticks; t++) all.add(x.tick(t));
        for (int p = 0; p < pictures; p++) lookAtPicture(x, p, all);
        for (int s = 0; s < sounds; s++) all.add(x.bestIf(s, 1));
        for (int b = 0; b <= 9; b += 3) all.add(x.bestBreath(b));
        for (int i = 0; i < silences; i++) all.addAll(List.of(x.silence(i, 0), x.silence(i, 1), x.silence(i, 2)));
        // THE TEXT itself is seen in what it lays.
        all.addAll(List.of(x.lay(), x.count(0), x.count(1), x.count(4), x.best(), x.greedy(), x.wipe()));
        return all;
    }

    private static void lookAtPicture(GapTellings x, int p, List<Integer> all) {
        int versions = x.picture(p, 3);
        for (int what = 0; what <= 6; what++) all.add(x.picture(p, what));
        for (int what = 0; what <= 1; what++) all.addAll(List.of(x.bestOf(p, what), x.greedyOf(p, what)));
        all.add(x.bestBy(1 << p));
        for (int v = 0; v < versions; v++) {
            for (int what = 0; what <= 4; what++) all.add(x.told(p, v, what));
        }
    }
}
