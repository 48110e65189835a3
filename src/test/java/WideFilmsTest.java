import java.util.Random;

/**
 * Promises 16 and 21 to 28 on the widest films: up to seven pictures of three versions, each with up to 41 ticks to begin
 * at, in up to 100 ticks. Drawn by fixed seeds; each answer must be the wide model's.
 */
public final class WideFilmsTest {
    private static final int FILMS = 200;
    /** With its text and ten calls for each of these at most, an object stays below 512. */
    private static final int ROUNDS = 30;
    private static final int MOST_LETTERS = 200;
    private static int wrong = 0;
    private static Random random;

    public static void main(String[] args) {
        bothModelsAlike();
        for (int seed = 0; seed < FILMS && wrong < 20; seed++) {
            random = new Random(seed);
            runOnce(seed);
        }
        System.out.println(wrong == 0 ? "WideFilmsTest: all as due" : "WideFilmsTest: " + wrong + " wrong");
        if (wrong != 0) System.exit(1);
    }

    private static void same(String call, int got, int due) {
        if (got != due) {
            wrong++;
            System.out.println(call + " answered " + got + ", due is " + due);
        }
    }

    private static int from(int least, int most) {
        return least + random.nextInt(most - least + 1);
    }

    /** On films that are small enough, the wide model has the plan that is found by trying every one. */
    private static void bothModelsAlike() {
        for (int seed = 0; seed < 60; seed++) {
            random = new Random(seed);
            String text = film(from(6, 16), 3, 3, 5);
            PlainModel plain = new PlainModel();
            PlainModel wide = new WideModel();
            write(plain, text);
            write(wide, text);
            for (int p = 0; p < plain.pics.size(); p++) {
                for (int what = 0; what <= 1; what++) {
                    same("the wide model on " + text, wide.bestOf(p, what), plain.bestOf(p, what));
                }
            }
        }
    }

    private static void write(PlainModel model, String text) {
        for (char c : text.toCharArray()) model.write(c);
        same("lay of the model: " + text, model.lay() < 0 ? 1 : 0, 0);
    }

    private static void runOnce(int seed) {
        int[] shifts = {20, 20, 8}, lengths = {30, 12, 4}, worths = {99, 30, 5};
        String text = film(seed % 3 == 0 ? 100 : from(30, 100), shifts[from(0, 2)], lengths[from(0, 2)], worths[from(0, 2)]);
        GapTellings real = new GapTellings();
        PlainModel model = new WideModel();
        write(model, text);
        for (char c : text.toCharArray()) real.write(c);
        same("lay of " + text, real.lay(), model.pics.size());
        for (int i = 0; i < ROUNDS; i++) {
            change(real, model, text);
            plans(real, model, "film " + seed + ", round " + i + ", " + text + ": ");
        }
    }

    private static String film(int ticks, int shift, int length, int worth) {
        StringBuilder text = new StringBuilder("f" + ticks + ";b" + (from(0, 2) == 0 ? from(0, 9) : from(0, 2)) + ";");
        int pictures = ticks < 20 ? from(1, 4) : from(4, 7);
        for (int p = 0; p < pictures; p++) {
            String item = "p" + from(0, ticks - 1) + "," + from(0, shift) + "," + from(0, shift);
            for (int v = from(1, 3); v > 0; v--) item += "," + from(1, length) + "," + from(1, worth);
            text.append(item).append(';');
        }
        for (int p = 1; p < pictures; p++) {
            if (from(0, 2) == 0) appendIfItFits(text, "c" + from(0, p - 1) + "," + p + ";");
        }
        for (int s = from(0, 6); s > 0; s--) {
            int begin = from(0, ticks - 1);
            appendIfItFits(text, "sggnn".charAt(from(0, 4)) + "" + begin + "," + Math.min(ticks, begin + from(1, 15)) + ";");
        }
        return text.toString();
    }

    private static void appendIfItFits(StringBuilder text, String item) {
        if (text.length() + item.length() <= MOST_LETTERS) text.append(item);
    }

    private static void change(GapTellings x, PlainModel m, String text) {
        int a = from(0, 3), b = from(0, 9), begin = from(0, m.ticks - 1);
        switch (from(0, 7)) {
            case 0 -> same("rate in " + text, x.rate(a, b), m.rate(a, b));
            case 1 -> same("breath in " + text, x.breath(b / 2), m.breath(b / 2));
            case 2 -> same("sound in " + text, x.sound(a, begin, begin + b), m.sound(a, begin, begin + b));
            case 3 -> same("hush in " + text, x.hush(a), m.hush(a));
            case 4 -> same("version in " + text, x.version(a, b, begin), m.version(a, b, begin));
            default -> { }
        }
    }

    private static void plans(GapTellings x, PlainModel m, String where) {
        int p = from(0, m.pics.size() - 1), what = from(0, 1), set = from(0, (1 << m.pics.size()) - 1);
        int s = from(0, 3), n = from(0, 9);
        switch (from(0, 8)) {
            case 0 -> same(where + "best()", x.best(), m.best());
            case 1 -> same(where + "bestBy(" + set + ")", x.bestBy(set), m.bestBy(set));
            case 2 -> same(where + "bestIf(" + s + ", " + n + ")", x.bestIf(s, n), m.bestIf(s, n));
            case 3 -> same(where + "bestBreath(" + n + ")", x.bestBreath(n), m.bestBreath(n));
            case 4 -> same(where + "count(6)", x.count(6), m.count(6));
            case 5 -> same(where + "greedy()", x.greedy(), m.greedy());
            case 6 -> same(where + "greedyOf(" + p + ", " + what + ")", x.greedyOf(p, what), m.greedyOf(p, what));
            case 7 -> {
                same(where + "adopt()", x.adopt(), m.adopt());
                same(where + "value()", x.value(), m.value());
                for (int q = 0; q < m.pics.size(); q++) same(where + "picture(" + q + ", 6)", x.picture(q, 6), m.picture(q, 6));
            }
            default -> same(where + "bestOf(" + p + ", " + what + ")", x.bestOf(p, what), m.bestOf(p, what));
        }
    }
}
