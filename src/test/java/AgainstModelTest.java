import java.util.Random;

/** Long runs of calls drawn by a fixed seed: each answer must be the plain model's. */
public final class AgainstModelTest {
    private static final int RUNS = 4000;
    private static int wrong = 0;
    private static Random random;

    public static void main(String[] args) {
        for (int run = 0; run < RUNS && wrong < 20; run++) {
            random = new Random(run);
            runOnce(run);
        }
        System.out.println(wrong == 0 ? "AgainstModelTest: all as due" : "AgainstModelTest: " + wrong + " wrong");
        if (wrong != 0) System.exit(1);
    }

    private static void runOnce(int run) {
        GapTellings real = new GapTellings();
        PlainModel model = new PlainModel();
        int calls = 0;
        // The first film's plans are too many for the model to try in each call, so most runs lay one of their own.
        String text = ownText();
        for (char c : text.toCharArray()) {
            same(run, "write " + c, real.write(c), model.write(c));
            calls++;
        }
        same(run, "fault of " + text, real.fault(), model.fault());
        if (model.fault() != GapTellings.NONE) return;
        same(run, "lay", real.lay(), model.lay());
        // A few of these are several calls, so they end well ahead of the 512th.
        for (calls += 2; calls < 250; calls++) {
            callOnce(run, real, model);
        }
    }

    private static void same(int run, String call, int got, int due) {
        if (got != due) {
            wrong++;
            System.out.println("run " + run + ": " + call + " answered " + got + ", due is " + due);
        }
    }

    private static int upTo(int most) {
        return random.nextInt(most + 1);
    }

    private static String ownText() {
        int ticks = 1 + upTo(random.nextBoolean() ? 24 : 99);
        StringBuilder text = new StringBuilder("f" + ticks + ";");
        int pictures = upTo(7);
        int wide = pictures > 4 ? 1 : upTo(2) == 0 ? 9 : 4;
        int told = 0;
        for (int i = upTo(8) + pictures; i > 0; i--) {
            if (told < pictures && upTo(1) == 0) {
                text.append(pictureItem(ticks, wide));
                told++;
                if (told > 1 && upTo(3) > 0) {
                    int j = 1 + upTo(told - 2);
                    text.append("c" + upTo(j - 1) + "," + j + ";");
                }
            } else if (upTo(5) == 0) {
                text.append("b" + upTo(9) + ";");
            } else {
                int from = upTo(ticks - 1);
                text.append("sgn".charAt(upTo(2)) + "" + from + "," + Math.min(ticks, from + 1 + upTo(8)) + ";");
            }
        }
        if (upTo(3) == 0 && text.length() > 1) {
            text.setCharAt(upTo(text.length() - 1), "0123456789,;fsgnpcb x".charAt(upTo(20)));
        }
        return text.length() > 200 ? text.substring(0, 200) : text.toString();
    }

    private static String pictureItem(int ticks, int wide) {
        StringBuilder item = new StringBuilder("p" + upTo(ticks - 1) + "," + upTo(wide) + "," + upTo(wide));
        for (int v = upTo(2); v >= 0; v--) {
            item.append("," + (1 + upTo(6)) + "," + (1 + upTo(upTo(1) == 0 ? 12 : 3)));
        }
        return item + ";";
    }

    /** Mostly a number from 0 to ahead of an end, now and then one about its edges or far out. */
    private static int mostlyBelow(int end) {
        int[] odd = {Integer.MIN_VALUE, Integer.MAX_VALUE, -5, -2, -1, end, end + 1};
        return end <= 0 || upTo(19) == 0 ? odd[upTo(6)] : upTo(end - 1);
    }

    private static int someTick(int p, PlainModel m) {
        boolean near = p >= 0 && p < m.pics.size() && upTo(9) > 0;
        return near ? m.pics.get(p).tick - 6 + upTo(12) : mostlyBelow(m.ticks);
    }

    private static void callOnce(int run, GapTellings x, PlainModel m) {
        int p = mostlyBelow(m.pics.size()), t = someTick(p, m), s = mostlyBelow(m.sounds.size());
        int v = mostlyBelow(p >= 0 && p < m.pics.size() ? m.pics.get(p).versions.size() : 3);
        int n = mostlyBelow(10), two = mostlyBelow(2), i = mostlyBelow(4) - upTo(1);
        String with = " with p " + p + " v " + v + " t " + t + " s " + s + " n " + n + " two " + two + " i " + i;
        switch (upTo(34)) {
            case 0 -> same(run, "rate" + with, x.rate(i, n), m.rate(i, n));
            case 1 -> same(run, "breath" + with, x.breath(n / 2), m.breath(n / 2));
            case 2 -> soundCall(run, x, m);
            case 3 -> same(run, "hush" + with, x.hush(s), m.hush(s));
            case 4 -> same(run, "version" + with, x.version(p, n, t), m.version(p, n, t));
            case 5, 6, 7, 8, 9 -> same(run, "place" + with, x.place(p, v, t), m.place(p, v, t));
            case 10 -> same(run, "off" + with, x.off(p), m.off(p));
            case 11, 12, 13, 14 -> same(run, "why" + with, x.why(p, v, t), m.why(p, v, t));
            case 15 -> same(run, "gain" + with, x.gain(p, v, t), m.gain(p, v, t));
            case 16 -> same(run, "value" + with, x.value(), m.value());
            case 17 -> same(run, "adopt" + with, x.adopt(), m.adopt());
            case 18, 19 -> same(run, "picture" + with, x.picture(p, n - 1), m.picture(p, n - 1));
            case 20, 21 -> same(run, "told" + with, x.told(p, v, n - 1), m.told(p, v, n - 1));
            case 22 -> same(run, "tick" + with, x.tick(t), m.tick(t));
            case 23, 24 -> same(run, "silence" + with, x.silence(n - 1, i), m.silence(n - 1, i));
            case 25 -> same(run, "best" + with, x.best(), m.best());
            case 26, 27 -> same(run, "bestOf" + with, x.bestOf(p, two), m.bestOf(p, two));
            case 28 -> same(run, "bestBy" + with, x.bestBy(oddSet(t, m)), m.bestBy(oddSet(t, m)));
            case 29 -> same(run, "bestIf" + with, x.bestIf(s, n), m.bestIf(s, n));
            case 30 -> same(run, "bestBreath" + with, x.bestBreath(n), m.bestBreath(n));
            case 31 -> same(run, "greedy" + with, x.greedy(), m.greedy());
            case 32 -> same(run, "greedyOf" + with, x.greedyOf(p, two), m.greedyOf(p, two));
            case 33 -> same(run, "count" + with, x.count(n + i), m.count(n + i));
            default -> textCall(run, x, m);
        }
    }

    private static void soundCall(int run, GapTellings x, PlainModel m) {
        int kind = mostlyBelow(3), from = mostlyBelow(m.ticks), to = upTo(19) == 0 ? mostlyBelow(m.ticks) : from + 1 + upTo(6);
        same(run, "sound " + kind + " " + from + " " + to, x.sound(kind, from, to), m.sound(kind, from, to));
    }

    private static int oddSet(int t, PlainModel m) {
        return t % 7 == 0 ? t : t & ((1 << m.pics.size()) - 1);
    }

    private static void textCall(int run, GapTellings x, PlainModel m) {
        int way = upTo(9);
        if (way == 0) {
            same(run, "lay", x.lay(), m.lay());
        } else if (way == 1) {
            same(run, "wipe", x.wipe(), m.wipe());
            for (char c : ownText().toCharArray()) same(run, "write " + c, x.write(c), m.write(c));
            same(run, "fault of " + m.text, x.fault(), m.fault());
            same(run, "lay of " + m.text, x.lay(), m.lay());
        } else {
            int letter = upTo(9) == 0 ? 30 + upTo(98) : "0123456789,;fsgnpcb".charAt(upTo(18));
            same(run, "write " + letter, x.write(letter), m.write(letter));
            same(run, "fault", x.fault(), m.fault());
        }
    }
}
