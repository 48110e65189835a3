import java.util.function.Consumer;

/** The edges of promises 21 to 28: BEST, GREEDY, what else would bring, and the counts. */
public final class PlansEdgesTest {
    private static final int NONE = Edges.NONE, ZERO = Edges.ZERO;
    private static final String FILM = "f12;s0,2;g5,8;p3,1,4,2,9,1,4;p8,3,3,2,7;c0,1;";
    private static final Consumer<GapTellings> PLACING = x -> {
        x.place(0, 0, 3);
        x.place(1, 0, 8);
    };
    /** Seven that can all be told, of worths 1, 2, 4 and so on to 64. */
    private static final String SEVEN = "f14;b0;p0,0,0,2,1;p2,0,0,2,2;p4,0,0,2,4;p6,0,0,2,8;p8,0,0,2,16;p10,0,0,2,32;p12,0,0,2,64;";

    public static void main(String[] args) {
        best();
        bestOf();
        bestBy();
        bestIf();
        bestBreath();
        greedy();
        greedyOf();
        count();
        Edges.end("PlansEdgesTest", Edges.promises(21, 28));
    }

    private static void best() {
        Edges.of(21, "VALUE of BEST.");
        Edges.due("without PICTURES", Edges.laid("f9;").best(), 0);
        Edges.due("none has a TICK", Edges.laid("f9;s0,9;p4,4,4,1,9;").best(), 0);
        Edges.due("none pays", Edges.laid("f9;g0,9;p4,4,4,2,5;").best(), 0);
        Edges.due("one of 0", Edges.laid("f9;g0,9;p4,4,4,2,6;").best(), 0);
        Edges.due("one of 1", Edges.laid("f9;g0,9;p4,4,4,2,7;").best(), 1);
        Edges.due("all seven", Edges.laid(SEVEN).best(), 127);
        Edges.due("the most", Edges.laid("f7;b0;p0,0,0,1,99;p1,0,0,1,99;p2,0,0,1,99;p3,0,0,1,99;p4,0,0,1,99;p5,0,0,1,99;"
            + "p6,0,0,1,99;").best(), 693);
        Edges.due("of one TICK", Edges.laid("f1;p0,0,0,1,5;").best(), 5);
        Edges.due("seven to the end of the longest film", Edges.laid("f100;b0;p93,0,0,1,9;p94,0,0,1,9;p95,0,0,1,9;p96,0,0,1,9;"
            + "p97,0,0,1,9;p98,0,0,1,9;p99,0,0,1,9;").best(), 63);
        Edges.due("the last TICK of the longest film", Edges.laid("f100;p99,0,0,1,5;").best(), 5);
        Edges.due("the longest to the end", Edges.laid("f100;p70,0,0,30,5;").best(), 5);
        Edges.due("one TICK too long", Edges.laid("f100;p71,0,0,30,5;").best(), 0);
        Edges.due("BREATH to the next one", Edges.laid("f9;p0,0,0,3,5;p6,0,0,3,5;b3;").best(), 10);
        Edges.due("one TICK too near", Edges.laid("f9;p0,0,0,3,5;p5,0,0,3,4;b3;").best(), 5);
        Edges.due("EARLY to make room", Edges.laid("f20;p5,20,0,4,9;p6,0,0,2,9;").best(), 9 + 9 - 8);
        Edges.due("LATE to make room", Edges.laid("f20;p5,0,20,4,9;p5,0,0,2,9;").best(), 9 + 9 - 3);
        // What is PLACED has no part in it, and it changes nothing.
        Edges.due("beside what is PLACED", Edges.laid("f9;p4,0,0,2,9;p5,0,0,2,3;", 1, 0, 5).best(), 9);
        Edges.refused("best", FILM, PLACING, GapTellings::best, 16);
    }

    private static void bestOf() {
        Edges.of(22, "Of BEST: the VERSION of a PICTURE (what = 0), its TICK (1).");
        GapTellings seven = Edges.laid(SEVEN);
        Edges.dueAll("all seven", Edges.bestPlan(seven), 0, 0, 0, 2, 0, 4, 0, 6, 0, 8, 0, 10, 0, 12);
        Edges.dueAll("the last VERSION", Edges.bestPlan(Edges.laid("f9;p4,0,0,2,5,2,6,2,7;")), 2, 4);
        Edges.dueAll("the last TICK", Edges.bestPlan(Edges.laid("f100;p79,0,20,1,50;s0,99;")), 0, 99);
        Edges.dueAll("the first TICK", Edges.bestPlan(Edges.laid("f100;p20,20,0,1,50;s1,100;")), 0, 0);
        GapTellings placed = Edges.laid("f9;p4,1,1,2,9;", 0, 0, 5);
        Edges.dueAll("not what is PLACED", Edges.bestPlan(placed), 0, 4);
        // What other calls try is not BEST.
        GapTellings x = Edges.laid("f20;s5,10;p8,0,0,2,9;p12,0,0,4,20;p13,0,0,1,8;");
        Edges.dueAll("BEST", Edges.bestPlan(x), NONE, NONE, 0, 12, NONE, NONE);
        x.bestIf(0, 5);
        x.bestBy(4);
        x.bestBreath(9);
        Edges.dueAll("BEST behind them", Edges.bestPlan(x), NONE, NONE, 0, 12, NONE, NONE);
        x.hush(0);
        Edges.dueAll("BEST anew", Edges.bestPlan(x), 0, 8, 0, 12, NONE, NONE);
        x.bestBy(5);
        x.adopt();
        Edges.dueAll("what is adopted", Edges.placed(x), 0, 8, 0, 12, NONE, NONE);

        Edges.of(22, "BAD;");
        for (int what = 0; what <= 1; what++) {
            int which = what;
            for (int p : Edges.outside(0, 1)) Edges.refused("picture " + p, FILM, PLACING, y -> y.bestOf(p, which), Edges.BAD);
        }
        for (int what : Edges.outside(0, 1)) Edges.refused("what " + what, FILM, PLACING, y -> y.bestOf(0, what), Edges.BAD);
        Edges.refused("without PICTURES", "f9;", y -> y.bestOf(0, 0), Edges.BAD);
        Edges.refused("an 8th", SEVEN, y -> y.bestOf(7, 0), Edges.BAD);

        Edges.of(22, "NONE: it has it not.");
        Edges.dueAll("none", Edges.bestPlan(Edges.laid("f9;s0,9;p4,0,0,1,9;")), NONE, NONE);
        Edges.dueAll("another one", Edges.bestPlan(Edges.laid("f9;p4,0,0,1,8;p4,0,0,1,9;")), NONE, NONE, 0, 4);
        Edges.refused("the VERSION", "f9;s0,9;p4,0,0,1,9;", y -> y.bestOf(0, 0), NONE);
        Edges.refused("the TICK", "f9;s0,9;p4,0,0,1,9;", y -> y.bestOf(0, 1), NONE);
    }

    private static void bestBy() {
        Edges.of(23, "VALUE of BEST, if only PICTURES of a set (as bits) could be PLACED.");
        GapTellings seven = Edges.laid(SEVEN);
        for (int set = 0; set <= 127; set++) Edges.due("bestBy(" + set + ")", seven.bestBy(set), set);
        GapTellings need = Edges.laid("f30;p5,0,0,2,9;p15,0,0,2,7;p25,0,0,2,5;c0,1;c1,2;");
        int[] want = {0, 9, 0, 16, 0, 9, 0, 21};
        for (int set = 0; set < 8; set++) Edges.due("by NEED, bestBy(" + set + ")", need.bestBy(set), want[set]);
        Edges.due("without PICTURES", Edges.laid("f9;").bestBy(0), 0);
        Edges.due("what is PLACED has no part in it", Edges.laid("f9;p4,0,0,2,9;p5,0,0,2,3;", 1, 0, 5).bestBy(1), 9);
        Edges.due("the way is free", Edges.laid("f9;p4,0,0,2,9;p5,0,0,2,3;").bestBy(2), 3);
        Edges.refused("bestBy", FILM, PLACING, x -> x.bestBy(1), 9);

        Edges.of(23, "BAD.");
        for (int set : Edges.outside(0, 3)) Edges.refused("bestBy(" + set + ")", FILM, PLACING, x -> x.bestBy(set), Edges.BAD);
        for (int set : new int[] {5, 6, 7, 8, 1 << 30, Edges.LEAST + 1}) {
            Edges.refused("bestBy(" + set + ")", FILM, PLACING, x -> x.bestBy(set), Edges.BAD);
        }
        for (int set : new int[] {-1, 1, 2}) Edges.refused("without PICTURES", "f9;", x -> x.bestBy(set), Edges.BAD);
        Edges.refused("an 8th", SEVEN, x -> x.bestBy(128), Edges.BAD);
    }

    private static void bestIf() {
        Edges.of(24, "VALUE of BEST, if SOUND s ended n TICKS earlier (n 0 to its length; all of them: it goes).");
        GapTellings x = Edges.laid("f30;s5,10;g12,14;p8,0,0,2,9;p5,0,0,1,3;p12,0,0,4,20;");
        int[] speech = {14, 14, 23, 23, 23, 26};
        for (int n = 0; n < speech.length; n++) Edges.due("bestIf(0, " + n + ")", x.bestIf(0, n), speech[n]);
        int[] song = {14, 17, 20};
        for (int n = 0; n < song.length; n++) Edges.due("bestIf(1, " + n + ")", x.bestIf(1, n), song[n]);
        Edges.dueAll("all is as it was", new int[] {x.best(), x.tick(5), x.tick(9), x.count(1), x.count(7)}, 14, 1, 1, 2, 5);
        GapTellings noise = Edges.laid("f9;n0,9;p4,0,0,3,9;");
        Edges.dueAll("NOISE", new int[] {noise.bestIf(0, 2), noise.bestIf(0, 3), noise.bestIf(0, 5), noise.bestIf(0, 9)}, 6, 7, 9, 9);
        GapTellings over = Edges.laid("f9;s2,6;s4,6;p4,0,0,2,9;");
        Edges.dueAll("two that lie over one another", new int[] {over.bestIf(0, 4), over.bestIf(1, 2)}, 0, 0);
        over.hush(1);
        Edges.dueAll("one of them", new int[] {over.bestIf(0, 1), over.bestIf(0, 2), over.bestIf(0, 4)}, 0, 9, 9);
        Edges.due("the longest goes", Edges.laid("f100;s0,100;p99,0,0,1,5;").bestIf(0, 100), 5);
        Edges.due("one TICK of the longest", Edges.laid("f100;s0,100;p99,0,0,1,5;").bestIf(0, 1), 5);
        Edges.due("one TICK long, as it is", Edges.laid("f1;s0,1;p0,0,0,1,5;").bestIf(0, 0), 0);
        Edges.due("one TICK long, it goes", Edges.laid("f1;s0,1;p0,0,0,1,5;").bestIf(0, 1), 5);
        Edges.due("the last of twelve", Edges.laid("f9;" + "g0,1;".repeat(11) + "s4,6;p4,0,0,2,7;").bestIf(11, 2), 7);
        Edges.due("of one twelfth", Edges.laid("f9;" + "g4,5;".repeat(12) + "p4,0,0,1,7;").bestIf(0, 1), 4);
        Edges.refused("bestIf", FILM, PLACING, y -> y.bestIf(0, 2), 16);

        Edges.of(24, "BAD.");
        for (int n = 0; n <= 2; n++) {
            int earlier = n;
            for (int s : Edges.outside(0, 1)) Edges.refused("sound " + s, FILM, PLACING, y -> y.bestIf(s, earlier), Edges.BAD);
        }
        for (int n : Edges.outside(0, 2)) Edges.refused("bestIf(0, " + n + ")", FILM, PLACING, y -> y.bestIf(0, n), Edges.BAD);
        for (int n : Edges.outside(0, 3)) Edges.refused("bestIf(1, " + n + ")", FILM, PLACING, y -> y.bestIf(1, n), Edges.BAD);
        Edges.refused("without SOUNDS", "f9;p4,0,0,2,9;", y -> y.bestIf(0, 0), Edges.BAD);
        Edges.refused("a 13th", "f9;p4,0,0,2,9;" + "n0,1;".repeat(12), y -> y.bestIf(12, 0), Edges.BAD);
        Edges.refused("one that is gone", FILM, y -> y.hush(1), y -> y.bestIf(1, 0), Edges.BAD);
        Edges.due("101 of 100", Edges.laid("f100;s0,100;").bestIf(0, 101), Edges.BAD);
    }

    private static void bestBreath() {
        Edges.of(25, "VALUE of BEST by another BREATH (0 to 9).");
        // A second picture for each breath: right behind the first one, one tick later, and so on.
        for (int gap = 0; gap <= 9; gap++) {
            GapTellings x = Edges.laid("f30;p5,0,0,2,9;p" + (7 + gap) + ",0,0,2,7;");
            for (int b = 0; b <= 9; b++) {
                Edges.due("bestBreath(" + b + ") of " + gap, x.bestBreath(b), b <= gap ? 16 : 9);
            }
            Edges.dueAll("BREATH, best() are as they were", new int[] {x.count(4), x.best()}, 1, gap >= 1 ? 16 : 9);
        }
        GapTellings x = Edges.laid("f30;p5,0,0,2,9;p7,0,0,2,7;b0;", 0, 0, 5, 1, 0, 7);
        Edges.due("the same BREATH", x.bestBreath(0), 16);
        Edges.due("another one", x.bestBreath(1), 9);
        Edges.dueAll("PLACED stays", Edges.placed(x), 0, 5, 0, 7);
        Edges.due("without PICTURES", Edges.laid("f9;").bestBreath(9), 0);
        Edges.due("to the film's end", Edges.laid("f9;p0,0,0,9,5;").bestBreath(9), 5);
        Edges.refused("bestBreath", FILM, PLACING, y -> y.bestBreath(4), 9 + 7 - 1);

        Edges.of(25, "BAD.");
        for (int b : Edges.outside(0, 9)) Edges.refused("bestBreath(" + b + ")", FILM, PLACING, y -> y.bestBreath(b), Edges.BAD);
    }

    private static void greedy() {
        Edges.of(26, "VALUE of GREEDY, and ZERO.");
        Edges.due("without PICTURES", Edges.laid("f9;").greedy(), ZERO);
        Edges.due("none has a TICK", Edges.laid("f9;s0,9;p4,4,4,1,9;").greedy(), ZERO);
        Edges.due("one of 0", Edges.laid("f9;g0,9;p4,4,4,2,6;").greedy(), ZERO);
        Edges.due("one of 1", Edges.laid("f9;g0,9;p4,4,4,2,7;").greedy(), ZERO + 1);
        Edges.due("all seven", Edges.laid(SEVEN).greedy(), ZERO + 127);
        Edges.due("the worthiest in the way of more", Edges.laid("f9;p4,0,0,3,9;p2,0,0,2,8;p6,0,0,2,8;").greedy(), ZERO + 9);
        Edges.due("of one TICK", Edges.laid("f1;p0,0,0,1,5;").greedy(), ZERO + 5);
        Edges.due("the last TICK", Edges.laid("f100;p79,0,20,1,50;s0,99;").greedy(), ZERO + 30);
        Edges.due("the first TICK", Edges.laid("f100;p20,20,0,1,50;s1,100;").greedy(), ZERO + 10);
        Edges.due("EARLY, not a TICK more", Edges.laid("f100;p20,19,0,1,50;s1,100;").greedy(), ZERO);
        Edges.due("LATE, not a TICK more", Edges.laid("f100;p79,0,19,1,50;s0,99;").greedy(), ZERO);
        Edges.refused("greedy", FILM, PLACING, GapTellings::greedy, ZERO + 16);
    }

    private static void greedyOf() {
        Edges.of(27, "Of GREEDY: the VERSION of a PICTURE (what = 0), its TICK (1).");
        Edges.dueAll("all seven", Edges.greedyPlan(Edges.laid(SEVEN)), 0, 0, 0, 2, 0, 4, 0, 6, 0, 8, 0, 10, 0, 12);
        Edges.dueAll("the last VERSION", Edges.greedyPlan(Edges.laid("f9;p4,0,0,2,5,2,6,2,7;")), 2, 4);
        Edges.dueAll("the last TICK", Edges.greedyPlan(Edges.laid("f100;p79,0,20,1,50;s0,99;")), 0, 99);
        Edges.dueAll("the first TICK", Edges.greedyPlan(Edges.laid("f100;p20,20,0,1,50;s1,100;")), 0, 0);
        GapTellings x = Edges.laid("f9;p4,0,0,3,9;p2,0,0,2,8;p6,0,0,2,8;");
        Edges.dueAll("not BEST", Edges.greedyPlan(x), 0, 4, NONE, NONE, NONE, NONE);
        x.sound(0, 5, 6);
        Edges.dueAll("anew", Edges.greedyPlan(x), NONE, NONE, 0, 2, 0, 6);
        x.rate(0, 9);
        x.hush(0);
        Edges.dueAll("and anew", Edges.greedyPlan(x), 0, 4, NONE, NONE, NONE, NONE);

        Edges.of(27, "BAD;");
        for (int what = 0; what <= 1; what++) {
            int which = what;
            for (int p : Edges.outside(0, 1)) Edges.refused("picture " + p, FILM, PLACING, y -> y.greedyOf(p, which), Edges.BAD);
        }
        for (int what : Edges.outside(0, 1)) Edges.refused("what " + what, FILM, PLACING, y -> y.greedyOf(0, what), Edges.BAD);
        Edges.refused("without PICTURES", "f9;", y -> y.greedyOf(0, 0), Edges.BAD);
        Edges.refused("an 8th", SEVEN, y -> y.greedyOf(7, 0), Edges.BAD);

        Edges.of(27, "NONE.");
        Edges.refused("the VERSION", "f9;s0,9;p4,0,0,1,9;", y -> y.greedyOf(0, 0), NONE);
        Edges.refused("the TICK", "f9;s0,9;p4,0,0,1,9;", y -> y.greedyOf(0, 1), NONE);
        Edges.refused("one of 0", "f9;g0,9;p4,0,0,1,3;", y -> y.greedyOf(0, 0), NONE);
    }

    private static void count() {
        Edges.of(28, "How many: 0 T, 1 SOUNDS, 2 PICTURES, 3 PLACED, 4 BREATH, 5 letters of THE TEXT, 6 PICTURES of BEST,"
            + " 7 TICKS with SPEECH, 8 TICKS told in what is PLACED, 9 to 12 RATES.");
        countsAre("the least", Edges.laid("f1;b0;"), 1, 0, 0, 0, 0, 6, 0, 0, 0, 2, 1, 3, 1);
        GapTellings seven = Edges.laid(SEVEN);
        seven.adopt();
        countsAre("seven", seven, 14, 0, 7, 7, 0, SEVEN.length(), 7, 0, 14, 2, 1, 3, 1);
        GapTellings loud = Edges.laid("f100;b9;" + "s0,100;".repeat(12) + "p5,0,0,1,9;");
        countsAre("SPEECH all over", loud, 100, 12, 1, 0, 9, 103, 0, 100, 0, 2, 1, 3, 1);
        GapTellings x = Edges.laid("f30;s3,9;s5,11;g0,1;p12,0,5,3,9,5,8;p20,0,5,4,1;b2;", 0, 1, 12, 1, 0, 20);
        x.rate(0, 4);
        x.rate(1, 5);
        x.rate(2, 6);
        x.rate(3, 0);
        x.sound(1, 20, 24);
        countsAre("all of them unlike", x, 30, 4, 2, 2, 2, 51, 1, 8, 9, 4, 5, 6, 0);
        x.off(0);
        x.wipe();
        x.hush(0);
        countsAre("and less", x, 30, 3, 2, 1, 2, 0, 1, 6, 4, 4, 5, 6, 0);

        Edges.of(28, "BAD.");
        for (int what : Edges.outside(0, 12)) Edges.refused("count(" + what + ")", FILM, PLACING, y -> y.count(what), Edges.BAD);
    }

    private static void countsAre(String name, GapTellings x, int... want) {
        int[] got = new int[13];
        for (int what = 0; what <= 12; what++) got[what] = x.count(what);
        Edges.dueAll("counts of " + name, got, want);
    }
}
