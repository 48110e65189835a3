import java.util.function.Consumer;
import java.util.function.ToIntFunction;

/** The edges of what is placed, of plans, silences and refused calls: the second part of 'Terms'. */
public final class RulesEdgesTest {
    private static final int NONE = Edges.NONE, ZERO = Edges.ZERO;
    /** Both its pictures can be placed by PLACING; the second one then has no other tick behind the first one. */
    private static final String FILM = "f12;s0,2;g5,8;p3,1,4,2,9,1,4;p8,3,3,2,7;c0,1;";
    private static final Consumer<GapTellings> PLACING = x -> {
        x.place(0, 0, 3);
        x.place(1, 0, 8);
    };

    public static void main(String[] args) {
        toldFromTo();
        whyNotOne();
        whyNotTwo();
        whyNotThree();
        whyNotFour();
        whyNotFive();
        whyNotSix();
        theFirstOfThese();
        costOfShift();
        costOfSound();
        gain();
        plan();
        best();
        bestOfSeveral();
        greedyBegins();
        greedyWorthiest();
        greedyOfSeveral();
        greedyPassesOver();
        silences();
        bad();
        notAsThingsStand();
        none();
        full();
        theFirstInTheOrderTold();
        Edges.end("RulesEdgesTest", "Terms 2");
    }

    private static void toldFromTo() {
        Edges.of("Terms 2", "A PICTURE is PLACED in a VERSION at a TICK t: it is told from t to ahead of t and LENGTH.");
        Edges.dueAll("LENGTH 1 at 0", Edges.ticks(Edges.laid("f4;p0,0,0,1,1;", 0, 0, 0)), 8, 0, 0, 0);
        Edges.dueAll("LENGTH 2 at 1", Edges.ticks(Edges.laid("f4;p1,0,0,3,1,2,1;", 0, 1, 1)), 0, 8, 8, 0);
        Edges.dueAll("LENGTH 3 at 1", Edges.ticks(Edges.laid("f4;p1,0,0,3,1,2,1;", 0, 0, 1)), 0, 8, 8, 8);
        GapTellings whole = Edges.laid("f30;p0,0,0,30,1;", 0, 0, 0);
        Edges.dueAll("the whole film", new int[] {whole.tick(0), whole.tick(29), whole.count(8)}, 8, 8, 30);
    }

    // ---- WHY NOT

    private static void whyIs(GapTellings x, int p, int v, int t, int want) {
        Edges.due("why(" + p + ", " + v + ", " + t + ")", x.why(p, v, t), want);
        // A call that asks changes nothing, so placing it answers by the same reason.
        if (want != 0) Edges.due("place(" + p + ", " + v + ", " + t + ")", x.place(p, v, t), Edges.NO);
    }

    private static void whyNotOne() {
        Edges.of("Terms 2", "1 it would not end by T;");
        GapTellings x = Edges.laid("f20;p15,9,9,5,9,1,9;");
        whyIs(x, 0, 0, 15, 0);
        whyIs(x, 0, 0, 16, 1);
        whyIs(x, 0, 1, 19, 0);
        GapTellings longest = Edges.laid("f100;p80,20,20,30,9;");
        whyIs(longest, 0, 0, 70, 0);
        whyIs(longest, 0, 0, 71, 1);
        GapTellings shortest = Edges.laid("f1;p0,0,0,1,9,2,9;");
        whyIs(shortest, 0, 0, 0, 0);
        whyIs(shortest, 0, 1, 0, 1);
    }

    private static void whyNotTwo() {
        Edges.of("Terms 2", "2 t is less than its TICK less EARLY, or more than its TICK and LATE;");
        GapTellings x = Edges.laid("f60;p30,20,20,1,9;p30,0,0,1,9;p30,3,5,1,9;p2,20,0,1,9;p58,0,20,1,9;");
        whyIs(x, 0, 0, 9, 2);
        whyIs(x, 0, 0, 10, 0);
        whyIs(x, 0, 0, 50, 0);
        whyIs(x, 0, 0, 51, 2);
        whyIs(x, 1, 0, 29, 2);
        whyIs(x, 1, 0, 30, 0);
        whyIs(x, 1, 0, 31, 2);
        whyIs(x, 2, 0, 26, 2);
        whyIs(x, 2, 0, 27, 0);
        whyIs(x, 2, 0, 35, 0);
        whyIs(x, 2, 0, 36, 2);
        whyIs(x, 3, 0, 0, 0);
        whyIs(x, 4, 0, 59, 0);
    }

    private static void whyNotThree() {
        Edges.of("Terms 2", "3 a TICK of it has SPEECH;");
        GapTellings x = Edges.laid("f20;s5,8;p6,6,9,3,9;");
        whyIs(x, 0, 0, 2, 0);
        whyIs(x, 0, 0, 3, 3);
        whyIs(x, 0, 0, 5, 3);
        whyIs(x, 0, 0, 7, 3);
        whyIs(x, 0, 0, 8, 0);
        whyIs(Edges.laid("f9;s4,5;p3,0,0,3,9;"), 0, 0, 3, 3);
        whyIs(Edges.laid("f9;g0,9;n0,9;p3,0,0,3,9;"), 0, 0, 3, 0);
        whyIs(Edges.laid("f9;g0,9;n0,9;s5,6;p3,0,0,3,9;"), 0, 0, 3, 3);
        whyIs(Edges.laid("f9;s0,1;p0,0,0,1,9;"), 0, 0, 0, 3);
        whyIs(Edges.laid("f9;s8,9;p8,0,0,1,9;"), 0, 0, 8, 3);
    }

    private static void whyNotFour() {
        Edges.of("Terms 2", "4 it and another one that is PLACED (not itself) have not BREATH TICKS, or more, between the end of"
            + " the one and the begin of the other one;");
        for (int b : new int[] {0, 1, 2, 9}) {
            GapTellings x = Edges.laid("f60;p30,0,9,5,9;p30,20,20,4,9;b" + b + ";");
            whyIs(x, 1, 0, 30, 0);
            x.place(0, 0, 30);
            whyIs(x, 1, 0, 30 - b - 4, 0);
            whyIs(x, 1, 0, 30 - b - 3, 4);
            whyIs(x, 1, 0, 35 + b - 1, 4);
            whyIs(x, 1, 0, 35 + b, 0);
            whyIs(x, 0, 0, 30, 0);
            whyIs(x, 0, 0, 31, 0);
            x.off(0);
            whyIs(x, 1, 0, 30, 0);
        }
        GapTellings gap = Edges.laid("f20;p5,0,0,2,9;p11,0,0,2,9;p8,9,9,2,9,3,9;", 0, 0, 5, 1, 0, 11);
        whyIs(gap, 2, 0, 7, 4);
        whyIs(gap, 2, 0, 8, 0);
        whyIs(gap, 2, 0, 9, 4);
        whyIs(gap, 2, 1, 8, 4);
        // BREATH is between two pictures alone, not at the film's begin and end.
        whyIs(Edges.laid("f9;p0,0,0,9,9;b9;"), 0, 0, 0, 0);
    }

    private static void whyNotFive() {
        Edges.of("Terms 2", "5 what it NEEDS is not PLACED so that it ends at t or earlier;");
        GapTellings x = Edges.laid("f40;p5,5,20,3,9;p20,20,9,3,9;c0,1;b0;");
        whyIs(x, 1, 0, 20, 5);
        x.place(0, 0, 10);
        whyIs(x, 1, 0, 13, 0);
        whyIs(x, 1, 0, 29, 0);
        whyIs(x, 1, 0, 12, 4);
        whyIs(x, 1, 0, 7, 5);
        whyIs(x, 1, 0, 0, 5);
        x.off(0);
        whyIs(x, 1, 0, 13, 5);
        GapTellings chain = Edges.laid("f40;p5,5,9,2,9;p10,9,9,2,9;p15,9,9,2,9;c0,1;c1,2;", 0, 0, 5);
        whyIs(chain, 2, 0, 15, 5);
        whyIs(chain, 1, 0, 8, 0);
    }

    private static void whyNotSix() {
        Edges.of("Terms 2", "6 one that NEEDS it is PLACED and begins ahead of its end.");
        GapTellings x = Edges.laid("f40;p5,5,20,3,9;p20,20,9,3,9;c0,1;b0;", 0, 0, 5, 1, 0, 20);
        whyIs(x, 0, 0, 17, 0);
        whyIs(x, 0, 0, 18, 4);
        whyIs(x, 0, 0, 23, 6);
        whyIs(x, 0, 0, 25, 6);
        x.off(1);
        whyIs(x, 0, 0, 23, 0);
        GapTellings two = Edges.laid("f60;p5,5,20,3,9;p30,0,0,3,9;p12,0,0,3,9;c0,1;c0,2;", 0, 0, 5, 1, 0, 30, 2, 0, 12);
        whyIs(two, 0, 0, 16, 6);
        two.off(2);
        whyIs(two, 0, 0, 16, 0);
    }

    /** Of each two that can hold at once, both hold. (5 and 6 cannot without 4: what it NEEDS ends ahead of the other.) */
    private static void theFirstOfThese() {
        Edges.of("Terms 2", "WHY NOT, the first of these:");
        whyIs(Edges.laid("f20;p5,0,0,6,9;"), 0, 0, 15, 1);
        whyIs(Edges.laid("f20;s18,20;p16,0,4,6,9;"), 0, 0, 16, 1);
        whyIs(Edges.laid("f20;p16,0,0,2,9;p16,0,4,6,9;", 0, 0, 16), 1, 0, 16, 1);
        whyIs(Edges.laid("f20;p0,0,0,2,9;p16,0,0,6,9;c0,1;"), 1, 0, 16, 1);
        String need = "f20;p0,0,20,2,9;p5,0,0,2,9;c0,1;";
        whyIs(Edges.laid(need, 0, 0, 0, 1, 0, 5), 0, 0, 19, 1);
        whyIs(Edges.laid("f20;s5,7;p10,0,0,2,9;"), 0, 0, 5, 2);
        whyIs(Edges.laid("f20;p5,0,0,2,9;p10,0,0,2,9;", 0, 0, 5), 1, 0, 5, 2);
        whyIs(Edges.laid("f20;p5,0,0,2,9;p10,0,0,2,9;c0,1;"), 1, 0, 12, 2);
        whyIs(Edges.laid("f20;p0,0,0,2,9;p5,0,0,2,9;c0,1;", 0, 0, 0, 1, 0, 5), 0, 0, 10, 2);
        whyIs(Edges.laid("f20;s8,9;p5,0,0,2,9;p4,0,0,6,9;", 0, 0, 5), 1, 0, 4, 3);
        whyIs(Edges.laid("f20;s8,9;p0,0,0,2,9;p8,0,0,2,9;c0,1;"), 1, 0, 8, 3);
        whyIs(Edges.laid(need + "s10,11;", 0, 0, 0, 1, 0, 5), 0, 0, 10, 3);
        whyIs(Edges.laid("f20;p0,0,0,2,9;p8,0,0,2,9;p8,0,0,2,9;c0,1;", 2, 0, 8), 1, 0, 8, 4);
        whyIs(Edges.laid(need, 0, 0, 0, 1, 0, 5), 0, 0, 6, 4);
    }

    // ---- COST, GAIN, VALUE

    private static void gainIs(GapTellings x, int p, int v, int t, int want) {
        Edges.due("gain(" + p + ", " + v + ", " + t + ") less ZERO", x.gain(p, v, t) - ZERO, want);
    }

    private static void costOfShift() {
        Edges.of("Terms 2", "COST of it: RATE of EARLY (or LATE) for each TICK that t is ahead of (behind) its own TICK,");
        GapTellings x = Edges.laid("f60;p30,20,20,1,99;");
        gainIs(x, 0, 0, 30, 99);
        gainIs(x, 0, 0, 29, 99 - 2);
        gainIs(x, 0, 0, 31, 99 - 1);
        gainIs(x, 0, 0, 10, 99 - 2 * 20);
        gainIs(x, 0, 0, 50, 99 - 20);
        x.rate(0, 9);
        x.rate(1, 0);
        gainIs(x, 0, 0, 29, 99 - 9);
        gainIs(x, 0, 0, 50, 99);
        x.rate(0, 0);
        x.rate(1, 9);
        gainIs(x, 0, 0, 10, 99);
        gainIs(x, 0, 0, 30, 99);
        gainIs(x, 0, 0, 31, 99 - 9);
    }

    private static void costOfSound() {
        Edges.of("Terms 2", "and for each TICK of it with a SONG that of SONG, else for each with NOISE that of NOISE.");
        GapTellings x = Edges.laid("f20;g5,7;n6,9;p0,0,20,4,50;");
        x.rate(1, 0);
        int[] cost = {0, 0, 3, 6, 7, 8, 5, 2, 1, 0};
        for (int t = 0; t < cost.length; t++) gainIs(x, 0, 0, t, 50 - cost[t]);
        x.rate(2, 0);
        gainIs(x, 0, 0, 5, 50 - 2);
        x.rate(2, 9);
        x.rate(3, 0);
        gainIs(x, 0, 0, 5, 50 - 18);
        GapTellings twice = Edges.laid("f9;g0,1;g0,1;n0,1;n4,5;n4,5;s6,7;s8,9;g8,9;p0,0,9,1,9;");
        twice.rate(1, 0);
        Edges.dueAll("GAINS", new int[] {twice.gain(0, 0, 0), twice.gain(0, 0, 3), twice.gain(0, 0, 4), twice.gain(0, 0, 6),
            twice.gain(0, 0, 8)}, ZERO + 6, ZERO + 9, ZERO + 8, ZERO + 9, ZERO + 6);
    }

    private static void gain() {
        Edges.of("Terms 2", "GAIN: WORTH less COST.");
        GapTellings x = Edges.laid("f60;g0,60;p30,20,20,30,1,1,99;");
        gainIs(x, 0, 1, 30, 99 - 3);
        gainIs(x, 0, 0, 30, 1 - 90);
        for (int what = 0; what < 3; what++) x.rate(what, 9);
        gainIs(x, 0, 0, 10, 1 - 20 * 9 - 30 * 9);
        gainIs(x, 0, 0, 0, 1 - 30 * 9 - 30 * 9);
        gainIs(x, 0, 1, 59, 99 - 29 * 9 - 9);
        x.rate(2, 0);
        gainIs(x, 0, 1, 30, 99);
    }

    private static void plan() {
        Edges.of("Terms 2", "A PLAN: PICTURES that are PLACED, each in a VERSION at a TICK, all of them so that none has a WHY NOT."
            + " Its VALUE: GAINS together.");
        GapTellings x = Edges.laid("f40;p5,5,5,2,9,1,8;p10,5,5,2,7;p30,5,5,2,6;g30,40;c0,1;", 0, 1, 4, 1, 0, 11, 2, 0, 30);
        Edges.due("VALUE", x.value() - ZERO, (8 - 2) + (7 - 1) + (6 - 6));
        Edges.due("VALUE of none", Edges.laid("f9;").value(), ZERO);
        // Were one WHY NOT forgotten, BEST would be worth more than this.
        Edges.due("1", Edges.laid("f9;p8,0,0,2,9;").best(), 0);
        Edges.due("2", Edges.laid("f9;p4,1,1,2,9;s3,6;").best(), 0);
        Edges.due("3", Edges.laid("f9;p4,1,1,1,9;s3,6;").best(), 0);
        Edges.due("4", Edges.laid("f9;p2,0,0,2,9;p4,0,0,2,7;").best(), 9);
        Edges.due("5", Edges.laid("f9;p6,0,0,2,9;p2,0,0,2,7;c0,1;").best(), 9);
        Edges.due("5 and 6", Edges.laid("f9;p6,0,0,2,5;p2,0,0,2,7;c0,1;").best(), 5);
    }

    private static void best() {
        Edges.of("Terms 2", "BEST: the PLAN of the greatest VALUE (0 for none);");
        GapTellings empty = Edges.laid("f9;");
        Edges.dueAll("no PICTURES", new int[] {empty.best(), empty.count(6)}, 0, 0);
        GapTellings below = Edges.laid("f9;p4,0,0,2,5;g4,6;");
        Edges.dueAll("one of less than 0", new int[] {below.best(), below.count(6)}, 0, 0);
        GapTellings more = Edges.laid("f9;p4,0,0,2,7;g4,6;");
        Edges.dueAll("one of 1", new int[] {more.best(), more.count(6)}, 1, 1);
        Edges.due("two for one that is worth more", Edges.laid("f9;p4,0,0,3,9;p2,0,0,2,5;p6,0,0,2,5;").best(), 10);
        Edges.due("one that is worth more than two", Edges.laid("f9;p4,0,0,3,11;p2,0,0,2,5;p6,0,0,2,5;").best(), 11);
        Edges.due("a loss for what NEEDS it", Edges.laid("f9;p1,0,0,2,1;p5,0,0,2,9;g1,3;c0,1;").best(), 9 + 1 - 6);
        bestIs("f9;p0,0,0,1,9;p2,0,0,1,8;p4,0,0,1,7;c0,2;", 0, 0, 0, 2, 0, 4);
        bestIs("f9;p0,0,9,1,9;p2,0,0,1,8;s6,9;", 0, 0, 0, 2);
        bestIs("f9;p0,0,0,2,9;p5,0,0,2,9;p1,0,0,2,3;", 0, 0, 0, 5, NONE, NONE);
        bestIs("f9;p0,0,0,2,3;p5,0,0,2,9;p1,0,0,2,9;", NONE, NONE, 0, 5, 0, 1);
        Edges.due("not if the loss is more", Edges.laid("f9;p1,0,0,2,1;p5,0,0,2,4;g1,3;c0,1;").best(), 0);
    }

    private static void bestOfSeveral() {
        Edges.of("Terms 2", "of several, by TICKS from 0 on, at each TICK at which they differ that in which the lowest PICTURE"
            + " begins there, else in its lowest VERSION, else one in which one begins there.");
        bestIs("f10;p5,0,0,2,5;p5,0,0,2,5;", 0, 5, NONE, NONE);
        bestIs("f10;p5,0,0,2,5,2,5,1,5;", 0, 5);
        bestIs("f10;p5,0,0,2,4,2,5,1,5;", 1, 5);
        bestIs("f10;p5,0,0,2,1,2,5;p5,0,0,2,5;", 1, 5, NONE, NONE);
        bestIs("f10;p5,0,0,1,3;g5,6;", 0, 5);
        bestIs("f10;p2,0,0,1,3;p6,0,0,1,9;g2,3;", 0, 2, 0, 6);
        bestIs("f10;p6,0,0,1,3;p2,0,0,1,9;g6,7;", 0, 6, 0, 2);
        bestIs("f20;p10,0,0,2,5;p5,0,0,2,5;b9;", NONE, NONE, 0, 5);
        bestIs("f20;p0,0,0,1,9;p5,0,0,2,5;p5,0,0,2,5;", 0, 0, 0, 5, NONE, NONE);
        bestIs("f20;p0,0,0,3,6;p0,0,0,2,3;p5,0,0,2,3;s5,6;", 0, 0, NONE, NONE, NONE, NONE);
        bestIs("f20;p0,0,0,5,6;p0,0,0,2,3;p4,0,0,2,3;", 0, 0, NONE, NONE, NONE, NONE);
        bestIs("f20;p0,0,0,2,3;p0,0,0,5,6;p4,0,0,2,3;", 0, 0, NONE, NONE, 0, 4);
        bestIs("f20;p0,0,0,5,6,2,3;p4,0,0,2,3;", 0, 0, NONE, NONE);
        bestIs("f20;p0,0,0,2,3,5,6;p4,0,0,2,3;", 0, 0, 0, 4);
        GapTellings early = Edges.laid("f20;p5,2,2,2,4;");
        Edges.dueAll("its own TICK", Edges.bestPlan(early), 0, 5);
        early.rate(1, 0);
        Edges.dueAll("LATE for nothing", Edges.bestPlan(early), 0, 5);
        early.rate(0, 0);
        Edges.dueAll("EARLY for nothing", Edges.bestPlan(early), 0, 3);
        // At TICK 0 the lowest VERSION would begin only one tick later, so the first TICK says that it is the other one.
        GapTellings tick = Edges.laid("f20;s2,3;p1,1,2,2,5,1,5;");
        tick.rate(0, 0);
        Edges.dueAll("the first TICK, then the lowest VERSION", Edges.bestPlan(tick), 0, 0);
        GapTellings later = Edges.laid("f20;s1,3;p1,1,2,2,5,1,5;");
        later.rate(0, 0);
        later.rate(1, 0);
        Edges.dueAll("the first TICK ahead of the lowest VERSION", Edges.bestPlan(later), 1, 0);
    }

    private static void bestIs(String text, int... want) {
        Edges.dueAll("BEST of " + text, Edges.bestPlan(Edges.laid(text)), want);
    }

    // ---- GREEDY

    private static void greedyIs(String text, int... want) {
        Edges.dueAll("GREEDY of " + text, Edges.greedyPlan(Edges.laid(text)), want);
    }

    private static void greedyBegins() {
        Edges.of("Terms 2", "GREEDY: nothing PLACED at first;");
        GapTellings x = Edges.laid("f20;p5,0,0,3,9;p6,0,0,3,5;", 1, 0, 6);
        Edges.dueAll("GREEDY", Edges.greedyPlan(x), 0, 5, NONE, NONE);
        Edges.dueAll("PLACED is as it was", Edges.placed(x), NONE, NONE, 0, 6);
        GapTellings need = Edges.laid("f20;p2,0,0,1,3;p6,0,0,3,5;g2,3;c0,1;", 0, 0, 2);
        Edges.dueAll("what it NEEDS is not PLACED for it", Edges.greedyPlan(need), NONE, NONE, NONE, NONE);
    }

    private static void greedyWorthiest() {
        Edges.of("Terms 2", "again and again, of all PICTURES that are not PLACED, VERSIONS and TICKS that have no WHY NOT, that of"
            + " the greatest WORTH,");
        greedyIs("f20;p5,0,0,3,9;p5,0,0,2,8;g7,8;", 0, 5, NONE, NONE);
        greedyIs("f20;p5,0,0,2,8;p5,0,0,3,9;g7,8;", NONE, NONE, 0, 5);
        greedyIs("f20;p5,0,0,2,8,3,9;g7,8;", 1, 5);
        greedyIs("f20;p5,0,0,2,8,3,9;s7,8;", 0, 5);
        greedyIs("f20;p5,0,0,2,3;p10,0,0,2,9;c0,1;", 0, 5, 0, 10);
        greedyIs("f20;p5,0,0,2,3;p6,0,9,2,9;p8,0,0,2,1;c0,1;", 0, 5, 0, 8, NONE, NONE);
        greedyIs("f20;p18,0,0,2,3;p6,0,9,2,9;c0,1;", 0, 18, NONE, NONE);
        greedyIs("f100;" + "p50,20,20,5,99;".repeat(7), 0, 50, 0, 56, 0, 44, 0, 62, 0, 68, 0, 38, 0, 32);
    }

    private static void greedyOfSeveral() {
        Edges.of("Terms 2", "of several of the greatest GAIN, then the lowest PICTURE, VERSION, TICK;");
        greedyIs("f20;p5,0,0,2,9;p6,0,0,2,9;g5,6;", NONE, NONE, 0, 6);
        greedyIs("f20;p5,0,0,2,9,1,9;g6,7;", 1, 5);
        greedyIs("f20;p5,9,9,2,9;", 0, 5);
        greedyIs("f20;p6,0,0,2,9;p5,0,0,2,9;", 0, 6, NONE, NONE);
        greedyIs("f20;p5,0,0,2,9,2,9;", 0, 5);
        greedyIs("f20;p5,0,0,1,3,2,9;p5,0,0,2,9;", 1, 5, NONE, NONE);
        GapTellings even = Edges.laid("f20;p5,2,2,1,9;s5,6;");
        even.rate(0, 1);
        Edges.dueAll("the lowest TICK", Edges.greedyPlan(even), 0, 4);
        GapTellings version = Edges.laid("f20;p5,2,2,2,9,1,9;s5,6;");
        version.rate(0, 1);
        Edges.dueAll("the lowest VERSION ahead of the lowest TICK", Edges.greedyPlan(version), 0, 6);
    }

    private static void greedyPassesOver() {
        Edges.of("Terms 2", "PLACED, if its GAIN is more than 0, else it is passed over in all (with all others of that PICTURE and"
            + " VERSION), till there is none.");
        greedyIs("f9;p4,0,0,1,4;g4,5;", 0, 4);
        greedyIs("f9;p4,0,0,1,3;g4,5;", NONE, NONE);
        greedyIs("f9;p4,0,0,1,2;g4,5;", NONE, NONE);
        greedyIs("f9;p4,0,0,3,9,2,7;g0,9;", 1, 4);
        greedyIs("f9;p4,0,0,3,9,2,6,1,4;g0,9;", 2, 4);
        greedyIs("f9;p4,0,0,3,9;p4,0,0,2,7;g0,9;", NONE, NONE, 0, 4);
        greedyIs("f9;p1,0,0,1,3;p5,0,0,1,9;g1,2;c0,1;", NONE, NONE, NONE, NONE);
        greedyIs("f9;");
        StringBuilder most = new StringBuilder("f9;g0,8;");
        for (int p = 0; p < 6; p++) most.append("p4,0,0,1,3,1,3,1,3;");
        // The last picture has two of GAIN 0 over the song, and a short one of less worth than all behind it.
        GapTellings x = Edges.laid(most + "p7,0,1,2,3,2,3,1,2;");
        Edges.dueAll("20 are passed over, the last of 21 is PLACED", new int[] {x.greedy(), x.greedyOf(6, 0), x.greedyOf(6, 1)},
            ZERO + 1, 2, 8);
        GapTellings none = Edges.laid(most + "p4,0,0,1,3,1,3,1,3;");
        Edges.dueAll("all 21 are passed over", new int[] {none.greedy(), none.greedyOf(6, 0)}, ZERO, NONE);
    }

    private static void silences() {
        Edges.of("Terms 2", "SILENCES are TICKS without SPEECH in a row, as many as there are.");
        silencesAre("f10;", 0, 10);
        silencesAre("f1;", 0, 1);
        silencesAre("f100;", 0, 100);
        silencesAre("f10;g0,10;n0,10;", 0, 10);
        silencesAre("f10;s0,10;");
        silencesAre("f1;s0,1;");
        silencesAre("f10;s0,9;", 9, 1);
        silencesAre("f10;s1,10;", 0, 1);
        silencesAre("f10;s0,1;s9,10;", 1, 8);
        silencesAre("f10;s3,5;", 0, 3, 5, 5);
        silencesAre("f10;s3,5;s5,6;", 0, 3, 6, 4);
        silencesAre("f10;s3,5;s6,7;", 0, 3, 5, 1, 7, 3);
        silencesAre("f10;s6,7;s2,4;s3,5;", 0, 2, 5, 1, 7, 3);
        StringBuilder most = new StringBuilder("f25;");
        int[] want = new int[26];
        for (int i = 0; i < 13; i++) {
            if (i < 12) most.append("s").append(2 * i + 1).append(",").append(2 * i + 2).append(";");
            want[2 * i] = 2 * i;
            want[2 * i + 1] = 1;
        }
        silencesAre(most.toString(), want);
    }

    private static void silencesAre(String text, int... want) {
        GapTellings x = Edges.laid(text);
        int[] got = new int[2 * x.silence(-1, 0)];
        for (int i = 0; i < got.length; i++) got[i] = x.silence(i / 2, i % 2);
        Edges.dueAll("SILENCES of " + text, got, want);
        Edges.due("one more of " + text, x.silence(got.length / 2, 0), NONE);
    }

    // ---- refused calls

    private static void bad(String name, ToIntFunction<GapTellings> call) {
        Edges.refused(name, FILM, PLACING, call, Edges.BAD);
    }

    private static void bad() {
        Edges.of("Terms 2", "BAD: a number is none that is told (PICTURES, VERSIONS, SOUNDS, TICKS: such as there are).");
        for (int p : Edges.outside(0, 1)) {
            bad("version of picture " + p, x -> x.version(p, 1, 1));
            bad("place of picture " + p, x -> x.place(p, 0, 8));
            bad("off of picture " + p, x -> x.off(p));
            bad("why of picture " + p, x -> x.why(p, 0, 8));
            bad("gain of picture " + p, x -> x.gain(p, 0, 8));
            bad("picture of picture " + p, x -> x.picture(p, 0));
            bad("told of picture " + p, x -> x.told(p, 0, 0));
            bad("bestOf of picture " + p, x -> x.bestOf(p, 0));
            bad("greedyOf of picture " + p, x -> x.greedyOf(p, 0));
        }
        for (int v : Edges.outside(0, 1)) badVersion(0, v, 3);
        for (int v : Edges.outside(0, 0)) badVersion(1, v, 8);
        for (int s : Edges.outside(0, 1)) {
            bad("hush of sound " + s, x -> x.hush(s));
            bad("bestIf of sound " + s, x -> x.bestIf(s, 0));
        }
        for (int t : Edges.outside(0, 11)) {
            bad("place at tick " + t, x -> x.place(0, 0, t));
            bad("why at tick " + t, x -> x.why(0, 0, t));
            bad("gain at tick " + t, x -> x.gain(0, 0, t));
            bad("tick at tick " + t, x -> x.tick(t));
        }
    }

    private static void badVersion(int p, int v, int t) {
        bad("place of version " + v, x -> x.place(p, v, t));
        bad("why of version " + v, x -> x.why(p, v, t));
        bad("gain of version " + v, x -> x.gain(p, v, t));
        bad("told of version " + v, x -> x.told(p, v, 0));
    }

    private static void notAsThingsStand() {
        Edges.of("Terms 2", "NO: not as things stand.");
        for (int what = 0; what < 4; what++) {
            int which = what, is = new int[] {2, 1, 3, 1}[what];
            Edges.refused("rate that is so", FILM, PLACING, x -> x.rate(which, is), Edges.NO);
        }
        Edges.refused("breath that is so", FILM, PLACING, x -> x.breath(1), Edges.NO);
        Edges.refused("place with a WHY NOT", FILM, PLACING, x -> x.place(1, 0, 5), Edges.NO);
        Edges.refused("off of what is not PLACED", FILM, x -> x.place(0, 1, 4), x -> x.off(1), Edges.NO);
        Edges.refused("lay of a FAULT", FILM, PLACING.andThen(x -> x.write('b')), GapTellings::lay, Edges.NO);
        Edges.refused("lay of nothing", FILM, PLACING.andThen(GapTellings::wipe), GapTellings::lay, Edges.NO);
    }

    private static void none() {
        Edges.of("Terms 2", "NONE: there is none.");
        Edges.refused("fault", FILM, PLACING, GapTellings::fault, NONE);
        Edges.refused("what it NEEDS", FILM, PLACING, x -> x.picture(0, 4), NONE);
        Edges.refused("the VERSION of what is not PLACED", FILM, x -> x.picture(0, 5), NONE);
        Edges.refused("the TICK of what is not PLACED", FILM, x -> x.picture(0, 6), NONE);
        Edges.refused("the greatest GAIN of none", FILM, x -> x.sound(0, 0, 12), x -> x.told(0, 0, 4), NONE);
        Edges.refused("a silence more", FILM, PLACING, x -> x.silence(1, 0), NONE);
        Edges.refused("what BEST has not", FILM, x -> x.sound(0, 0, 12), x -> x.bestOf(0, 0), NONE);
        Edges.refused("what GREEDY has not", FILM, x -> x.sound(0, 0, 12), x -> x.greedyOf(0, 1), NONE);
    }

    private static void writeMuch(GapTellings x) {
        for (int i = 0; i < 200; i++) x.write('b');
    }

    private static void soundMuch(GapTellings x) {
        for (int i = 0; i < 12; i++) x.sound(i % 3, 0, 1);
    }

    private static void full() {
        Edges.of("Terms 2", "FULL.");
        Edges.refused("a 201st letter", FILM, RulesEdgesTest::writeMuch, x -> x.write(32), Edges.FULL);
        Edges.refused("a 13th sound", FILM, PLACING.andThen(RulesEdgesTest::soundMuch), x -> x.sound(0, 0, 12), Edges.FULL);
        Edges.refused("a 4th version", FILM, PLACING.andThen(x -> x.version(0, 5, 5)), x -> x.version(0, 1, 99), Edges.FULL);
    }

    private static void theFirstInTheOrderTold() {
        Edges.of("Terms 2", "Of several the first in the order told; nothing changes then.");
        Edges.refused("write: BAD, FULL", FILM, RulesEdgesTest::writeMuch, x -> x.write(127), Edges.BAD);
        Edges.refused("write: BAD, FULL", FILM, RulesEdgesTest::writeMuch, x -> x.write(31), Edges.BAD);
        Consumer<GapTellings> sounds = PLACING.andThen(RulesEdgesTest::soundMuch);
        Edges.refused("sound: BAD, FULL", FILM, sounds, x -> x.sound(3, 0, 1), Edges.BAD);
        Edges.refused("sound: BAD, FULL", FILM, sounds, x -> x.sound(0, 1, 1), Edges.BAD);
        Edges.refused("sound: BAD, FULL", FILM, sounds, x -> x.sound(0, -1, 1), Edges.BAD);
        Edges.refused("sound: BAD, FULL", FILM, sounds, x -> x.sound(0, 1, 13), Edges.BAD);
        Consumer<GapTellings> versions = PLACING.andThen(x -> x.version(0, 5, 5));
        Edges.refused("version: BAD, FULL", FILM, versions, x -> x.version(0, 0, 1), Edges.BAD);
        Edges.refused("version: BAD, FULL", FILM, versions, x -> x.version(0, 31, 1), Edges.BAD);
        Edges.refused("version: BAD, FULL", FILM, versions, x -> x.version(0, 1, 0), Edges.BAD);
        Edges.refused("version: BAD, FULL", FILM, versions, x -> x.version(0, 1, 100), Edges.BAD);
        bad("place: BAD, NO", x -> x.place(0, 2, 11));
        bad("place: BAD, NO", x -> x.place(0, 0, 12));
        Edges.refused("off: BAD, NO", FILM, x -> x.off(2), Edges.BAD);
        bad("rate: BAD, NO", x -> x.rate(4, 2));
        bad("breath: BAD, NO", x -> x.breath(10));
        bad("picture: BAD, NONE", x -> x.picture(2, 4));
        Consumer<GapTellings> loud = x -> x.sound(0, 0, 12);
        Edges.refused("told: BAD, NONE", FILM, loud, x -> x.told(0, 2, 4), Edges.BAD);
        Edges.refused("silence: BAD, NONE", FILM, loud, x -> x.silence(0, 3), Edges.BAD);
        Edges.refused("silence: BAD, NONE", FILM, loud, x -> x.silence(0, -1), Edges.BAD);
        Edges.refused("silence: BAD, NONE", FILM, loud, x -> x.silence(-2, 0), Edges.BAD);
        Edges.refused("bestOf: BAD, NONE", FILM, loud, x -> x.bestOf(0, 2), Edges.BAD);
        Edges.refused("greedyOf: BAD, NONE", FILM, loud, x -> x.greedyOf(0, -1), Edges.BAD);
    }
}
