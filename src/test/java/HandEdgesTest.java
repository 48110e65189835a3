import java.util.function.Consumer;

/** The edges of promises 11 to 20: placing by hand, and what can be asked of pictures, versions, ticks and silences. */
public final class HandEdgesTest {
    private static final int NONE = Edges.NONE, ZERO = Edges.ZERO;
    private static final String FILM = "f12;s0,2;g5,8;p3,1,4,2,9,1,4;p8,3,3,2,7;c0,1;";
    private static final Consumer<GapTellings> PLACING = x -> {
        x.place(0, 0, 3);
        x.place(1, 0, 8);
    };
    /** Seven in a row, each one needing the one ahead of it. */
    private static final String CHAIN = "f14;b0;p0,0,0,2,9;p2,0,0,2,9;p4,0,0,2,9;p6,0,0,2,9;p8,0,0,2,9;p10,0,0,2,9;p12,0,0,2,9;"
        + "c0,1;c1,2;c2,3;c3,4;c4,5;c5,6;";
    private static final int[] ALL_SEVEN = {0, 0, 0, 1, 0, 2, 2, 0, 4, 3, 0, 6, 4, 0, 8, 5, 0, 10, 6, 0, 12};

    public static void main(String[] args) {
        place();
        placeNot();
        off();
        why();
        gain();
        value();
        adopt();
        picture();
        toldOfItself();
        toldNow();
        tick();
        silence();
        Edges.end("HandEdgesTest", Edges.promises(11, 20));
    }

    private static void place() {
        Edges.of(11, "A PICTURE is PLACED (in place of how it was): GAIN and ZERO.");
        GapTellings x = Edges.laid("f40;p5,5,5,3,9,4,1;p10,5,5,3,9;g20,40;");
        Edges.due("at its TICK", x.place(0, 0, 5), ZERO + 9);
        Edges.due("as it is", x.place(0, 0, 5), ZERO + 9);
        Edges.due("over where it was", x.place(0, 0, 4), ZERO + 7);
        Edges.due("in another VERSION, of GAIN below 0", x.place(0, 1, 4), ZERO - 1);
        Edges.dueAll("how it is", Edges.placed(x), 1, 4, NONE, NONE);
        Edges.dueAll("how it was is gone", new int[] {x.count(3), x.count(8), x.tick(3), x.tick(4), x.tick(7), x.tick(8)},
            1, 4, 0, 8, 8, 0);
        Edges.due("of GAIN 0", Edges.laid("f9;p4,0,0,1,3;g4,5;").place(0, 0, 4), ZERO);
        GapTellings least = Edges.laid("f50;p20,20,0,30,1;g0,50;");
        least.rate(0, 9);
        least.rate(2, 9);
        Edges.due("of the least GAIN", least.place(0, 0, 0), ZERO + 1 - 20 * 9 - 30 * 9);
        Edges.due("of the greatest GAIN", Edges.laid("f50;p20,20,0,30,99;").place(0, 0, 20), ZERO + 99);
        Edges.due("at the first TICK", Edges.laid("f9;p0,0,0,1,5;").place(0, 0, 0), ZERO + 5);
        Edges.due("at the last TICK", Edges.laid("f9;p8,0,0,1,5;").place(0, 0, 8), ZERO + 5);
        Edges.due("all seven", Edges.laid(CHAIN, ALL_SEVEN).count(3), 7);
        GapTellings need = Edges.laid("f40;p5,5,20,3,9;p20,20,9,3,9;c0,1;b0;", 0, 0, 5, 1, 0, 20);
        Edges.due("to right ahead of what NEEDS it", need.place(0, 0, 17), ZERO + 9 - 12);
    }

    private static void placeNot() {
        Edges.of(11, "BAD;");
        for (int p : Edges.outside(0, 1)) Edges.refused("picture " + p, FILM, PLACING, x -> x.place(p, 0, 8), Edges.BAD);
        for (int v : Edges.outside(0, 1)) Edges.refused("version " + v, FILM, PLACING, x -> x.place(0, v, 3), Edges.BAD);
        for (int v : Edges.outside(0, 0)) Edges.refused("version " + v, FILM, PLACING, x -> x.place(1, v, 8), Edges.BAD);
        for (int t : Edges.outside(0, 11)) Edges.refused("tick " + t, FILM, PLACING, x -> x.place(0, 0, t), Edges.BAD);
        Edges.refused("without PICTURES", "f9;", x -> x.place(0, 0, 0), Edges.BAD);

        Edges.of(11, "NO: there is a WHY NOT.");
        Edges.refused("1", FILM, PLACING, x -> x.place(1, 0, 11), Edges.NO);
        Edges.refused("2", FILM, PLACING, x -> x.place(0, 1, 10), Edges.NO);
        Edges.refused("3", FILM + "s6,7;", x -> x.place(0, 1, 4), x -> x.place(0, 1, 6), Edges.NO);
        Edges.refused("4", FILM, PLACING, x -> x.place(0, 0, 6), Edges.NO);
        Edges.refused("5", FILM, x -> x.place(1, 0, 8), Edges.NO);
        Edges.refused("6", "f20;p2,2,12,2,9;p8,0,0,2,9;c0,1;", x -> {
            x.place(0, 0, 2);
            x.place(1, 0, 8);
        }, x -> x.place(0, 0, 12), Edges.NO);
    }

    private static void off() {
        Edges.of(12, "A PICTURE is taken off, and all that NEED it (and those that NEED these): how many.");
        for (int p = 0; p < 7; p++) {
            GapTellings x = Edges.laid(CHAIN, ALL_SEVEN);
            Edges.due("off(" + p + ")", x.off(p), 7 - p);
            Edges.dueAll("PLACED, TICKS told", new int[] {x.count(3), x.count(8), x.value()}, p, 2 * p, ZERO + 9 * p);
            for (int q = 0; q < 7; q++) {
                Edges.dueAll("picture " + q, new int[] {x.picture(q, 5), x.picture(q, 6)}, q < p ? 0 : NONE, q < p ? 2 * q : NONE);
            }
        }
        String tree = "f60;p0,0,0,2,9;p10,0,0,2,9;p20,0,0,2,9;p30,0,0,2,9;p40,0,0,2,9;c0,1;c0,2;c1,4;";
        int[] all = {0, 0, 0, 1, 0, 10, 2, 0, 20, 3, 0, 30, 4, 0, 40};
        GapTellings two = Edges.laid(tree, all);
        Edges.due("one with two that NEED it", two.off(0), 4);
        Edges.dueAll("what is left", Edges.placed(two), NONE, NONE, NONE, NONE, NONE, NONE, 0, 30, NONE, NONE);
        GapTellings one = Edges.laid(tree, all);
        Edges.due("one with one that NEEDS it", one.off(1), 2);
        Edges.dueAll("what is left", Edges.placed(one), 0, 0, NONE, NONE, 0, 20, 0, 30, NONE, NONE);
        Edges.due("one that none NEEDS", one.off(3), 1);
        GapTellings some = Edges.laid(tree, 0, 0, 0, 2, 0, 20);
        Edges.due("those that are not PLACED do not count", some.off(0), 2);
        Edges.due("it can be PLACED again", some.place(0, 0, 0), ZERO + 9);

        Edges.of(12, "BAD;");
        for (int p : Edges.outside(0, 1)) Edges.refused("off(" + p + ")", FILM, PLACING, x -> x.off(p), Edges.BAD);
        Edges.refused("without PICTURES", "f9;", x -> x.off(0), Edges.BAD);
        Edges.refused("an 8th", "f9;" + "p4,0,0,1,9;".repeat(7), x -> x.place(0, 0, 4), x -> x.off(7), Edges.BAD);

        Edges.of(12, "NO: it is not PLACED.");
        Edges.refused("nothing is", FILM, x -> x.off(0), Edges.NO);
        Edges.refused("another one is", FILM, x -> x.place(0, 0, 3), x -> x.off(1), Edges.NO);
        Edges.refused("it was", FILM, PLACING.andThen(x -> x.off(0)), x -> x.off(0), Edges.NO);
        Edges.refused("it was taken off with what it NEEDS", FILM, PLACING.andThen(x -> x.off(0)), x -> x.off(1), Edges.NO);
    }

    private static void why() {
        Edges.of(13, "WHY NOT; 0: none.");
        GapTellings x = Edges.laid("f20;s8,9;p3,3,16,2,9;p12,8,7,2,9;c0,1;");
        Edges.dueAll("0, 1, 2, 3, 5", new int[] {x.why(0, 0, 3), x.why(0, 0, 19), x.why(1, 0, 3), x.why(1, 0, 7), x.why(1, 0, 12)},
            0, 1, 2, 3, 5);
        x.place(0, 0, 3);
        x.place(1, 0, 12);
        Edges.dueAll("0, 4, 6", new int[] {x.why(0, 0, 3), x.why(0, 0, 11), x.why(0, 0, 15)}, 0, 4, 6);
        Edges.dueAll("it changes nothing", Edges.placed(x), 0, 3, 0, 12);
        Edges.refused("why", FILM, PLACING, y -> y.why(0, 0, 11), 1);
        Edges.due("the last TICK", x.why(0, 0, 18), 6);

        Edges.of(13, "BAD.");
        for (int p : Edges.outside(0, 1)) Edges.refused("picture " + p, FILM, PLACING, y -> y.why(p, 0, 8), Edges.BAD);
        for (int v : Edges.outside(0, 1)) Edges.refused("version " + v, FILM, PLACING, y -> y.why(0, v, 3), Edges.BAD);
        for (int v : Edges.outside(0, 0)) Edges.refused("version " + v, FILM, PLACING, y -> y.why(1, v, 8), Edges.BAD);
        for (int t : Edges.outside(0, 11)) Edges.refused("tick " + t, FILM, PLACING, y -> y.why(0, 0, t), Edges.BAD);
        Edges.due("the first TICK is one", Edges.laid(FILM).why(0, 0, 0), 2);
        Edges.due("the last TICK is one", Edges.laid(FILM).why(0, 0, 11), 1);
        Edges.refused("without PICTURES", "f9;", y -> y.why(0, 0, 0), Edges.BAD);
    }

    private static void gain() {
        Edges.of(14, "GAIN of it, WHY NOT or not, and ZERO.");
        GapTellings x = Edges.laid("f20;s8,9;g15,20;p3,3,3,2,9;p12,8,8,2,9;c0,1;");
        Edges.due("without a WHY NOT", x.gain(0, 0, 3), ZERO + 9);
        Edges.due("2", x.gain(0, 0, 18), ZERO + 9 - 15 - 6);
        Edges.due("3", x.gain(0, 0, 7), ZERO + 9 - 4);
        Edges.due("5", x.gain(1, 0, 12), ZERO + 9);
        x.place(0, 0, 3);
        x.place(1, 0, 12);
        Edges.due("4", x.gain(1, 0, 3), ZERO + 9 - 18);
        Edges.due("6", x.gain(0, 0, 15), ZERO + 9 - 12 - 6);
        Edges.dueAll("it changes nothing", Edges.placed(x), 0, 3, 0, 12);

        Edges.of(14, "BAD (one that would not end by T, too).");
        GapTellings end = Edges.laid("f20;p15,9,9,5,9,1,9;");
        Edges.due("ends by T", end.gain(0, 0, 15), ZERO + 9);
        Edges.due("one TICK later", end.gain(0, 0, 16), Edges.BAD);
        Edges.due("shorter, at the last TICK", end.gain(0, 1, 19), ZERO + 9 - 4);
        Edges.due("longer, at the last TICK", end.gain(0, 0, 19), Edges.BAD);
        Edges.due("at the first TICK", end.gain(0, 0, 0), ZERO + 9 - 30);
        Edges.due("longer than the film", Edges.laid("f29;p0,0,0,30,9;").gain(0, 0, 0), Edges.BAD);
        Edges.due("as long as the film", Edges.laid("f30;p0,0,0,30,9;").gain(0, 0, 0), ZERO + 9);
        for (int p : Edges.outside(0, 1)) Edges.refused("picture " + p, FILM, PLACING, y -> y.gain(p, 0, 8), Edges.BAD);
        for (int v : Edges.outside(0, 1)) Edges.refused("version " + v, FILM, PLACING, y -> y.gain(0, v, 3), Edges.BAD);
        for (int v : Edges.outside(0, 0)) Edges.refused("version " + v, FILM, PLACING, y -> y.gain(1, v, 8), Edges.BAD);
        for (int t : Edges.outside(0, 10)) Edges.refused("tick " + t, FILM, PLACING, y -> y.gain(0, 0, t), Edges.BAD);
        Edges.refused("without PICTURES", "f9;", y -> y.gain(0, 0, 0), Edges.BAD);
    }

    private static void value() {
        Edges.of(15, "VALUE of all that is PLACED, and ZERO.");
        Edges.due("without PICTURES", Edges.laid("f9;").value(), ZERO);
        Edges.due("nothing is PLACED", Edges.laid(FILM).value(), ZERO);
        Edges.due("one", Edges.laid(FILM, 0, 1, 4).value(), ZERO + 3);
        Edges.due("all seven", Edges.laid(CHAIN, ALL_SEVEN).value(), ZERO + 63);
        Edges.due("below 0", Edges.laid("f9;p4,0,0,2,5;g0,9;", 0, 0, 4).value(), ZERO - 1);
        Edges.due("above and below", Edges.laid("f9;p4,0,0,2,5;p0,0,0,2,9;g4,6;", 0, 0, 4, 1, 0, 0).value(), ZERO + 8);
        GapTellings x = Edges.laid("f9;p4,2,2,2,9;", 0, 0, 3);
        x.sound(1, 4, 5);
        Edges.due("by a SONG more", x.value(), ZERO + 9 - 2 - 3);
        x.hush(0);
        Edges.due("by one less", x.value(), ZERO + 9 - 2);
        x.off(0);
        Edges.due("taken off", x.value(), ZERO);
    }

    private static void adopt() {
        Edges.of(16, "All that BEST has is PLACED, nothing else: how many.");
        Edges.due("without PICTURES", Edges.laid("f9;").adopt(), 0);
        GapTellings loud = Edges.laid("f12;p3,0,0,2,9;p8,0,0,2,5;g8,10;", 1, 0, 8);
        Edges.due("one", loud.adopt(), 1);
        Edges.dueAll("nothing else", Edges.placed(loud), 0, 3, NONE, NONE);
        GapTellings none = Edges.laid("f12;p8,0,0,2,5;g8,10;", 0, 0, 8);
        Edges.due("none", none.adopt(), 0);
        Edges.dueAll("none", new int[] {none.count(3), none.value(), none.picture(0, 5)}, 0, ZERO, NONE);
        GapTellings zero = Edges.laid("f12;p8,0,0,2,6;g8,10;");
        Edges.due("one of GAIN 0", zero.adopt(), 1);
        GapTellings seven = Edges.laid(CHAIN);
        Edges.due("all seven", seven.adopt(), 7);
        Edges.dueAll("all seven", Edges.placed(seven), 0, 0, 0, 2, 0, 4, 0, 6, 0, 8, 0, 10, 0, 12);
        Edges.due("again", seven.adopt(), 7);
        GapTellings moved = Edges.laid("f20;p5,4,4,2,9,1,3;", 0, 1, 8);
        Edges.due("in another VERSION at another TICK", moved.adopt(), 1);
        Edges.dueAll("in place of how it was", Edges.placed(moved), 0, 5);
        GapTellings first = new GapTellings();
        Edges.due("the first film", first.adopt(), 5);
        Edges.dueAll("the first film", Edges.placed(first), Edges.bestPlan(first));
        Edges.due("its VALUE", first.value(), ZERO + 21);
        first.off(0);
        Edges.dueAll("BEST is not what is PLACED", new int[] {first.best(), first.bestOf(0, 1), first.adopt()}, 21, 8, 5);
    }

    private static void picture() {
        Edges.of(17, "Of a PICTURE: TICK (what = 0), EARLY (1), LATE (2), how many VERSIONS (3),");
        GapTellings x = Edges.laid("f90;p1,2,3,4,5,6,7,8,9;p11,12,13,14,15;p0,0,0,1,1,2,2;p89,20,20,1,1;");
        int[][] want = {{1, 2, 3, 3}, {11, 12, 13, 1}, {0, 0, 0, 2}, {89, 20, 20, 1}};
        for (int p = 0; p < 4; p++) {
            for (int what = 0; what < 4; what++) Edges.due("picture(" + p + ", " + what + ")", x.picture(p, what), want[p][what]);
        }
        x.version(1, 1, 1);
        Edges.due("one VERSION more", x.picture(1, 3), 2);

        Edges.of(17, "the PICTURE that it NEEDS (4; NONE),");
        GapTellings chain = Edges.laid(CHAIN);
        for (int p = 0; p < 7; p++) Edges.due("picture(" + p + ", 4)", chain.picture(p, 4), p == 0 ? NONE : p - 1);

        Edges.of(17, "the VERSION in which it is PLACED (5; NONE), at which TICK (6; NONE).");
        GapTellings y = Edges.laid("f90;p0,0,5,1,1,2,2,3,3;p88,0,1,1,1;");
        Edges.dueAll("not PLACED", Edges.placed(y), NONE, NONE, NONE, NONE);
        y.place(0, 0, 0);
        Edges.dueAll("VERSION 0 at TICK 0", Edges.placed(y), 0, 0, NONE, NONE);
        y.place(0, 2, 5);
        y.place(1, 0, 89);
        Edges.dueAll("the last VERSION, the last TICK", Edges.placed(y), 2, 5, 0, 89);
        y.off(0);
        Edges.dueAll("taken off", Edges.placed(y), NONE, NONE, 0, 89);

        Edges.of(17, "BAD.");
        for (int p : Edges.outside(0, 1)) {
            for (int what = 0; what <= 6; what++) {
                int which = what;
                Edges.refused("picture(" + p + ", " + what + ")", FILM, PLACING, z -> z.picture(p, which), Edges.BAD);
            }
        }
        for (int what : Edges.outside(0, 6)) {
            Edges.refused("picture(0, " + what + ")", FILM, PLACING, z -> z.picture(0, what), Edges.BAD);
        }
        Edges.refused("without PICTURES", "f9;", z -> z.picture(0, 0), Edges.BAD);
        Edges.refused("an 8th", CHAIN, z -> z.picture(7, 0), Edges.BAD);
    }

    private static void toldOfItself() {
        Edges.of(18, "Of a VERSION: LENGTH (what = 0), WORTH (1),");
        GapTellings x = Edges.laid("f9;p4,0,0,1,99,30,1,7,8;p4,0,0,2,3;");
        Edges.dueAll("LENGTHS", new int[] {x.told(0, 0, 0), x.told(0, 1, 0), x.told(0, 2, 0), x.told(1, 0, 0)}, 1, 30, 7, 2);
        Edges.dueAll("WORTHS", new int[] {x.told(0, 0, 1), x.told(0, 1, 1), x.told(0, 2, 1), x.told(1, 0, 1)}, 99, 1, 8, 3);

        Edges.of(18, "BAD.");
        for (int what = 0; what <= 4; what++) {
            int which = what;
            for (int p : Edges.outside(0, 1)) Edges.refused("picture " + p, FILM, PLACING, y -> y.told(p, 0, which), Edges.BAD);
            for (int v : Edges.outside(0, 1)) Edges.refused("version " + v, FILM, PLACING, y -> y.told(0, v, which), Edges.BAD);
            for (int v : Edges.outside(0, 0)) Edges.refused("version " + v, FILM, PLACING, y -> y.told(1, v, which), Edges.BAD);
        }
        for (int what : Edges.outside(0, 4)) Edges.refused("what " + what, FILM, PLACING, y -> y.told(0, 0, what), Edges.BAD);
        Edges.refused("without PICTURES", "f9;", y -> y.told(0, 0, 0), Edges.BAD);
        Edges.refused("a 4th version", "f9;p4,0,0,1,1,1,1,1,1;", y -> y.told(0, 3, 0), Edges.BAD);
    }

    private static void toldNow() {
        Edges.of(18, "at how many TICKS it could be PLACED now (2),");
        GapTellings x = Edges.laid("f20;s0,3;p5,5,2,3,9;p8,4,11,3,1;c0,1;");
        Edges.dueAll("at first", new int[] {x.told(0, 0, 2), x.told(1, 0, 2)}, 5, 0);
        x.place(0, 0, 5);
        Edges.dueAll("itself is not in its way; behind what it NEEDS", new int[] {x.told(0, 0, 2), x.told(1, 0, 2)}, 5, 9);
        x.place(1, 0, 9);
        Edges.dueAll("ahead of what NEEDS it", new int[] {x.told(0, 0, 2), x.told(1, 0, 2)}, 3, 9);
        x.sound(0, 10, 11);
        Edges.dueAll("one is taken off", new int[] {x.count(3), x.told(0, 0, 2), x.told(1, 0, 2)}, 1, 5, 7);
        GapTellings wide = Edges.laid("f41;p20,20,20,1,9;p20,20,20,30,1;");
        Edges.dueAll("the most", new int[] {wide.told(0, 0, 2), wide.told(1, 0, 2)}, 41, 12);
        Edges.due("none but one", Edges.laid("f1;p0,20,20,1,1;").told(0, 0, 2), 1);
        Edges.due("the last TICK", Edges.laid("f9;p8,0,9,1,1;").told(0, 0, 2), 1);

        Edges.of(18, "at how many if nothing but 1, 2, 3 is looked at (3),");
        GapTellings y = Edges.laid("f20;s0,3;p5,5,2,3,9;p8,4,11,3,1,18,5;c0,1;");
        Edges.dueAll("at first", new int[] {y.told(0, 0, 3), y.told(1, 0, 3), y.told(1, 1, 3)}, 5, 14, 0);
        y.place(0, 0, 5);
        y.place(1, 0, 9);
        Edges.dueAll("whatever is PLACED", new int[] {y.told(0, 0, 3), y.told(1, 0, 3), y.told(1, 1, 3)}, 5, 14, 0);
        Edges.due("whole", wide.told(0, 0, 3), 41);
        Edges.due("EARLY ahead of the first TICK", Edges.laid("f9;p2,20,20,1,5;").told(0, 0, 3), 9);
        Edges.due("nothing but SPEECH", Edges.laid("f9;s0,9;p4,4,4,1,9;").told(0, 0, 3), 0);
        Edges.due("one TICK without it", Edges.laid("f9;s0,8;p4,4,4,1,9;").told(0, 0, 3), 1);
        Edges.due("longer than the film", Edges.laid("f9;p4,4,4,10,9;").told(0, 0, 3), 0);
        Edges.due("as long as the film", Edges.laid("f9;p4,4,4,9,9;").told(0, 0, 3), 1);

        Edges.of(18, "the greatest GAIN of those of (3), and ZERO (4; NONE).");
        Edges.dueAll("at first", new int[] {y.told(0, 0, 4), y.told(1, 0, 4), y.told(1, 1, 4)}, ZERO + 9, ZERO + 1, NONE);
        Edges.due("below 0", Edges.laid("f9;g0,9;p4,4,4,2,1;").told(0, 0, 4), ZERO - 5);
        Edges.due("EARLY", Edges.laid("f9;s4,9;p4,4,4,2,9;").told(0, 0, 4), ZERO + 9 - 4);
        Edges.due("LATE, at the last TICK", Edges.laid("f9;s0,8;p4,4,4,1,9;").told(0, 0, 4), ZERO + 9 - 4);
        Edges.due("at the first TICK", Edges.laid("f9;s1,9;p4,4,4,1,9;").told(0, 0, 4), ZERO + 9 - 8);
        Edges.due("EARLY ahead of the first TICK", Edges.laid("f9;s1,9;p2,20,20,1,5;").told(0, 0, 4), ZERO + 5 - 4);
        Edges.due("none", Edges.laid("f9;s0,9;p4,4,4,1,9;").told(0, 0, 4), NONE);
        Edges.due("what it NEEDS is not looked at", Edges.laid("f9;p0,0,0,1,1;p4,0,0,1,7;c0,1;").told(1, 0, 4), ZERO + 7);
    }

    private static void tick() {
        Edges.of(19, "What a TICK has: 1 SPEECH, 2 a SONG, 4 NOISE, together;");
        Edges.dueAll("all of them", Edges.ticks(Edges.laid("f8;s1,2;s3,4;s5,6;s7,8;g2,4;g6,8;n4,8;")), 0, 1, 2, 3, 4, 5, 6, 7);
        Edges.dueAll("twice the same", Edges.ticks(Edges.laid("f2;s0,1;s0,1;g1,2;g1,2;")), 1, 2);

        Edges.of(19, "8: something is told then.");
        GapTellings x = Edges.laid("f8;g2,4;n3,6;p2,0,0,2,9;p5,0,0,2,9;", 0, 0, 2, 1, 0, 5);
        Edges.dueAll("ticks", Edges.ticks(x), 0, 0, 10, 14, 4, 12, 8, 0);
        x.off(0);
        Edges.dueAll("one less", Edges.ticks(x), 0, 0, 2, 6, 4, 12, 8, 0);
        Edges.dueAll("from the first TICK to the last", Edges.ticks(Edges.laid("f3;p0,0,0,3,9;", 0, 0, 0)), 8, 8, 8);

        Edges.of(19, "BAD.");
        for (int t : Edges.outside(0, 11)) Edges.refused("tick(" + t + ")", FILM, PLACING, y -> y.tick(t), Edges.BAD);
        for (int t : Edges.outside(0, 0)) Edges.refused("tick(" + t + ") of one", "f1;s0,1;", y -> y.tick(t), Edges.BAD);
        for (int t : Edges.outside(0, 99)) Edges.due("tick(" + t + ") of 100", Edges.laid("f100;").tick(t), Edges.BAD);
    }

    private static void silence() {
        Edges.of(20, "SILENCES: how many (i = -1);");
        for (int what = 0; what <= 2; what++) {
            Edges.due("none", Edges.laid("f9;s0,9;").silence(-1, what), 0);
            Edges.due("one", Edges.laid("f9;").silence(-1, what), 1);
            Edges.due("three", Edges.laid("f9;s1,2;s7,8;").silence(-1, what), 3);
        }

        Edges.of(20, "of the i-th its first TICK (what = 0), how long (1), in how many of its TICKS something is told (2).");
        GapTellings x = Edges.laid("f20;s3,5;s9,12;p5,0,0,2,9;p7,0,0,2,9;p15,0,0,5,9;b0;", 0, 0, 5, 1, 0, 7, 2, 0, 15);
        int[][] want = {{0, 3, 0}, {5, 4, 4}, {12, 8, 5}};
        for (int i = 0; i < 3; i++) {
            for (int what = 0; what < 3; what++) Edges.due("silence(" + i + ", " + what + ")", x.silence(i, what), want[i][what]);
        }
        x.off(0);
        Edges.due("one less", x.silence(1, 2), 2);
        GapTellings whole = Edges.laid("f30;p0,0,0,30,9;", 0, 0, 0);
        Edges.dueAll("the whole film", new int[] {whole.silence(0, 0), whole.silence(0, 1), whole.silence(0, 2)}, 0, 30, 30);

        Edges.of(20, "BAD (i below -1);");
        for (int i : new int[] {-2, -3, Edges.LEAST}) {
            for (int what = 0; what <= 2; what++) {
                int which = what;
                Edges.refused("silence(" + i + ", " + what + ")", FILM, PLACING, y -> y.silence(i, which), Edges.BAD);
            }
        }
        for (int what : Edges.outside(0, 2)) {
            Edges.refused("silence(0, " + what + ")", FILM, PLACING, y -> y.silence(0, what), Edges.BAD);
        }

        Edges.of(20, "NONE: not so many.");
        for (int what = 0; what <= 2; what++) {
            int which = what;
            Edges.refused("silence(1, " + what + ")", FILM, PLACING, y -> y.silence(1, which), NONE);
            Edges.refused("silence far out", FILM, PLACING, y -> y.silence(Edges.MOST, which), NONE);
            Edges.refused("silence(0, " + what + ") of none", "f9;s0,9;", y -> y.silence(0, which), NONE);
            Edges.refused("silence(3, " + what + ") of three", "f9;s1,2;s7,8;", y -> y.silence(3, which), NONE);
        }
    }
}
