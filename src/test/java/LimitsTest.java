import java.util.Random;

/** Far-out arguments in all states throw nothing, and 512 of the dearest calls on the fullest film end soon. */
public final class LimitsTest {
    private static final int[] WILD = {Integer.MIN_VALUE, Integer.MIN_VALUE + 1, -100001, -2, -1, 0, 1, 2, 3, 6, 7, 11, 12,
        13, 29, 30, 31, 99, 100, 101, 127, 128, 1 << 30, Integer.MAX_VALUE - 1, Integer.MAX_VALUE};
    private static final String FULLEST = "f100;" + "p50,20,20,1,99,2,99,3,99;".repeat(7) + "b0;s0,9;n9,99;";
    private static int wrong = 0;

    public static void main(String[] args) {
        wildArguments();
        dearCalls();
        sameAnswersTwice();
        System.out.println(wrong == 0 ? "LimitsTest: all as due" : "LimitsTest: " + wrong + " wrong");
        if (wrong != 0) System.exit(1);
    }

    private static void due(String what, int got, int want) {
        if (got != want) {
            wrong++;
            System.out.println(what + " answered " + got + ", due is " + want);
        }
    }

    private static GapTellings laid(String text) {
        GapTellings x = new GapTellings();
        for (char c : text.toCharArray()) x.write(c);
        x.lay();
        return x;
    }

    private static void wildArguments() {
        for (String text : new String[] {"", "f1;", "f1;p0,20,20,30,99;", "f100;s99,100;g0,100;p99,0,20,30,1;", FULLEST}) {
            for (int seed = 0; seed < 40; seed++) {
                GapTellings x = laid(text);
                Random random = new Random(seed);
                for (int i = 0; i < 512; i++) answer(x, random, WILD);
            }
        }
    }

    private static int pick(Random random, int[] from) {
        return from[random.nextInt(from.length)];
    }

    private static int answer(GapTellings x, Random r, int[] from) {
        int a = pick(r, from), b = pick(r, from), c = pick(r, from);
        switch (r.nextInt(27)) {
            case 0: return x.write(a);
            case 1: return x.wipe();
            case 2: return x.fault();
            case 3: return x.lay();
            case 4: return x.rate(a, b);
            case 5: return x.breath(a);
            case 6: return x.sound(a, b, c);
            case 7: return x.hush(a);
            case 8: return x.version(a, b, c);
            case 9: return x.place(a, b, c);
            case 10: return x.off(a);
            case 11: return x.why(a, b, c);
            case 12: return x.gain(a, b, c);
            case 13: return x.value();
            case 14: return x.adopt();
            case 15: return x.picture(a, b);
            case 16: return x.told(a, b, c);
            case 17: return x.tick(a);
            case 18: return x.silence(a, b);
            case 19: return x.best();
            case 20: return x.bestOf(a, b);
            case 21: return x.bestBy(a);
            case 22: return x.bestIf(a, b);
            case 23: return x.bestBreath(a);
            case 24: return x.greedy();
            case 25: return x.greedyOf(a, b);
            default: return x.count(a);
        }
    }

    private static void dearCalls() {
        if (FULLEST.length() > 200) due("letters", FULLEST.length(), 200);
        GapTellings x = laid(FULLEST);
        due("pictures", x.count(2), 7);
        due("all at once, without noise", x.bestIf(1, 90), 7 * 99 - 2 * 3 - 10);
        for (int i = 0; i < 256; i++) {
            x.bestIf(i % 2, i % 9);
            x.rate(3, i % 2);
            x.greedy();
        }
    }

    private static void sameAnswersTwice() {
        GapTellings one = laid(FULLEST);
        GapTellings two = laid(FULLEST);
        Random first = new Random(7);
        Random second = new Random(7);
        int[] near = {0, 1, 2, 3, 4, 5, 6, 40, 45, 50, 55};
        for (int i = 0; i < 300; i++) due("call " + i, answer(one, first, near), answer(two, second, near));
    }
}
