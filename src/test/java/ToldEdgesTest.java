import java.util.function.Consumer;

/** The edges of promises 1 to 10: a new object, the text, rates, breath, sounds and versions. */
public final class ToldEdgesTest {
    private static final int NONE = Edges.NONE, ZERO = Edges.ZERO;
    private static final String FILM = "f12;s0,2;g5,8;p3,1,4,2,9,1,4;p8,3,3,2,7;c0,1;";
    private static final Consumer<GapTellings> PLACING = x -> {
        x.place(0, 0, 3);
        x.place(1, 0, 8);
    };

    public static void main(String[] args) {
        aNewObject();
        write();
        wipe();
        fault();
        lay();
        layNot();
        rate();
        breath();
        sound();
        soundTakesOff();
        soundNot();
        hush();
        version();
        Edges.end("ToldEdgesTest", Edges.promises(1, 10));
    }

    private static void aNewObject() {
        Edges.of(1, "As told; THE TEXT is empty.");
        GapTellings x = new GapTellings();
        int[] want = {60, 5, 5, 0, 1, 0, 5, 19, 0, 2, 1, 3, 1};
        for (int what = 0; what < want.length; what++) Edges.due("count(" + what + ")", x.count(what), want[what]);
        Edges.due("value()", x.value(), ZERO);
        Edges.due("fault()", x.fault(), NONE);
        Edges.due("lay()", x.lay(), Edges.NO);
        Edges.due("wipe()", x.wipe(), 0);
        Edges.due("write()", x.write('f'), 1);
        GapTellings changed = new GapTellings();
        changed.adopt();
        changed.rate(0, 9);
        changed.hush(0);
        GapTellings other = new GapTellings();
        Edges.dueAll("an object has nothing of another one", new int[] {other.count(1), other.count(3), other.count(9)}, 5, 0, 2);
    }

    private static void write() {
        Edges.of(2, "A letter (32 to 126, as in ASCII) comes behind THE TEXT: how long it is.");
        GapTellings x = new GapTellings();
        for (int letter = 32; letter <= 126; letter++) Edges.due("write(" + letter + ")", x.write(letter), letter - 31);
        GapTellings text = new GapTellings();
        String item = "f10;";
        for (int i = 0; i < 4; i++) Edges.due("write", text.write(item.charAt(i)), i + 1);
        Edges.due("lay()", text.lay(), 0);
        Edges.due("a letter behind what is laid", text.write('b'), 5);
        Edges.due("it comes behind", text.fault(), 4);

        Edges.of(2, "BAD;");
        for (int letter : Edges.outside(32, 126)) Edges.refused("write(" + letter + ")", FILM, x1 -> x1.write(letter), Edges.BAD);
        for (int letter : new int[] {0, -1, 256 + 'f', 65536 + 'f', -65536 + 'f'}) {
            Edges.refused("write(" + letter + ")", FILM, x1 -> x1.write(letter), Edges.BAD);
        }
        Edges.refused("write(31) to an empty text", "", x1 -> x1.write(31), Edges.BAD);

        Edges.of(2, "FULL.");
        GapTellings full = new GapTellings();
        for (int i = 1; i <= 200; i++) Edges.due("letter " + i, full.write('a'), i);
        Edges.due("letter 201", full.write('a'), Edges.FULL);
        Edges.due("letter 201 again", full.write('a'), Edges.FULL);
        Edges.due("how long it is", full.count(5), 200);
        full.wipe();
        Edges.due("after wipe()", full.write('a'), 1);
        String most = "f9;" + "b01;".repeat(49);
        GapTellings last = Edges.written(most);
        Edges.due("letter 200", last.write('b'), 200);
        Edges.due("letter 201", last.write(';'), Edges.FULL);
        Edges.due("the 200th is as it was", last.fault(), 199);
    }

    private static void wipe() {
        Edges.of(3, "THE TEXT is empty: how long it was.");
        GapTellings x = new GapTellings();
        Edges.due("of none", x.wipe(), 0);
        x.write('x');
        Edges.due("of one", x.wipe(), 1);
        Edges.due("again", x.wipe(), 0);
        for (int i = 0; i < 200; i++) x.write('x');
        Edges.due("of 200", x.wipe(), 200);
        Edges.dueAll("it is empty", new int[] {x.count(5), x.fault(), x.lay(), x.wipe()}, 0, NONE, Edges.NO, 0);
        GapTellings laid = Edges.laid(FILM, 0, 0, 3);
        laid.rate(0, 7);
        laid.wipe();
        Edges.dueAll("what is LAID stays", new int[] {laid.count(0), laid.count(1), laid.count(2), laid.count(3), laid.count(9)},
            12, 2, 2, 1, 7);
    }

    private static void fault() {
        Edges.of(4, "FAULT.");
        Edges.faultIs("x", 0);
        Edges.faultIs("f9;x", 3);
        Edges.faultIs("f9;" + "b01;".repeat(49) + "b", 199);
        GapTellings x = Edges.laid(FILM, 0, 0, 3);
        x.write('b');
        Edges.due("fault()", x.fault(), FILM.length());
        Edges.due("fault() again", x.fault(), FILM.length());
        Edges.dueAll("it changes nothing", new int[] {x.count(0), x.count(2), x.count(3), x.count(5)}, 12, 2, 1, FILM.length() + 1);
        x.write('2');
        Edges.due("not yet an ITEM", x.fault(), FILM.length());
        x.write(';');
        Edges.due("an ITEM", x.fault(), NONE);
        Edges.due("not LAID by it", x.count(4), 1);

        Edges.of(4, "NONE.");
        Edges.faultIs("", NONE);
        Edges.faultIs("f1;", NONE);
        Edges.faultIs("f9;" + "b01;".repeat(49), NONE);
        Edges.faultIs("f09;" + "b01;".repeat(49), NONE);
        Edges.refused("fault of a text that is not LAID", FILM, y -> {
            y.wipe();
            Edges.write(y, "f99;b7;p1,1,1,1,1;");
        }, GapTellings::fault, NONE);
    }

    private static void lay() {
        Edges.of(5, "LAID: how many PICTURES; THE TEXT stays.");
        Edges.due("none", Edges.written("f1;").lay(), 0);
        Edges.due("one", Edges.written("f1;p0,0,0,1,1;").lay(), 1);
        GapTellings seven = Edges.written("f9;" + "p0,0,0,1,1;".repeat(7));
        Edges.due("seven", seven.lay(), 7);
        Edges.due("THE TEXT", seven.count(5), 80);
        Edges.due("again", seven.lay(), 7);
        seven.write('b');
        Edges.due("behind THE TEXT", seven.fault(), 80);
        GapTellings x = Edges.laid("f20;s0,9;g2,3;p1,1,1,1,9;p9,0,0,3,8,2,7;c0,1;b5;");
        Edges.relaid(x, "f7;n3,4;p5,2,0,2,9;");
        Edges.dueAll("a shorter film", new int[] {x.count(0), x.count(1), x.count(2), x.count(4), x.count(7)}, 7, 1, 1, 1, 0);
        Edges.dueAll("its ticks", Edges.ticks(x), 0, 0, 0, 4, 0, 0, 0);
        Edges.dueAll("what it has no more", new int[] {x.tick(7), x.picture(1, 0), x.told(0, 1, 0), x.hush(1)},
            Edges.BAD, Edges.BAD, Edges.BAD, Edges.BAD);
        Edges.dueAll("its BEST and GREEDY", new int[] {x.best(), x.greedy(), x.bestOf(0, 1), x.greedyOf(0, 1)}, 9, ZERO + 9, 5, 5);
        // BEST of the film before must not shine through, whatever was worked out for it.
        GapTellings worth = Edges.laid("f20;p0,0,0,1,1;p15,0,0,1,50;");
        Edges.due("a film of much", worth.best(), 51);
        Edges.relaid(worth, "f8;p5,0,0,2,9;");
        Edges.dueAll("a film of less", new int[] {worth.best(), worth.bestBy(0), worth.bestBy(1), worth.count(6)}, 9, 0, 9, 1);
        Edges.relaid(worth, "f3;");
        Edges.dueAll("a film of nothing", new int[] {worth.best(), worth.count(6)}, 0, 0);
        Edges.relaid(x, "f100;p90,0,0,9,9;");
        Edges.dueAll("a longer film", new int[] {x.tick(99), x.tick(3), x.best(), x.greedy()}, 0, 0, 9, ZERO + 9);
    }

    private static void layNot() {
        Edges.of(5, "NO.");
        Edges.refused("lay of nothing", "", GapTellings::lay, Edges.NO);
        Edges.refused("lay of one letter", "", x -> x.write('f'), GapTellings::lay, Edges.NO);
        for (String text : new String[] {"x", "f9;b", "f9;b2;p0,0,0,1,1;s5,4;", "f101;", "f9;b2;f9;"}) {
            Edges.refused("lay of " + text, FILM, PLACING.andThen(x -> {
                x.rate(1, 6);
                x.wipe();
                Edges.write(x, text);
            }), GapTellings::lay, Edges.NO);
        }
    }

    private static void rate() {
        Edges.of(6, "RATE of EARLY (what = 0), LATE (1), SONG (2), NOISE (3) is told anew (0 to 9): what it was.");
        int[] first = {2, 1, 3, 1};
        for (int what = 0; what < 4; what++) {
            GapTellings x = Edges.laid("f20;g0,3;n6,9;p5,5,5,1,50;", 0, 0, 4);
            Edges.due("to 0", x.rate(what, 0), first[what]);
            Edges.due("it is 0", x.count(9 + what), 0);
            Edges.due("to 9", x.rate(what, 9), 0);
            Edges.due("it is 9", x.count(9 + what), 9);
            for (int other = 0; other < 4; other++) {
                if (other != what) Edges.due("another one", x.count(9 + other), first[other]);
            }
            Edges.dueAll("GAINS by 9", new int[] {x.gain(0, 0, 4), x.gain(0, 0, 10), x.gain(0, 0, 2), x.gain(0, 0, 6)},
                ZERO + 50 - (what == 0 ? 9 : 2), ZERO + 50 - (what == 1 ? 45 : 5),
                ZERO + 50 - (what == 0 ? 27 : 6) - (what == 2 ? 9 : 3), ZERO + 50 - (what == 1 ? 9 : 1) - (what == 3 ? 9 : 1));
            Edges.dueAll("PLACED stays, with its VALUE told anew", new int[] {x.count(3), x.value()},
                1, ZERO + 50 - (what == 0 ? 9 : 2));
        }
        GapTellings best = Edges.laid("f9;p4,0,0,1,8;g4,5;");
        Edges.dueAll("BEST, GREEDY", new int[] {best.best(), best.greedy()}, 5, ZERO + 5);
        best.rate(2, 8);
        Edges.dueAll("BEST, GREEDY of 0", new int[] {best.best(), best.count(6), best.greedy()}, 0, 1, ZERO);
        best.rate(2, 9);
        Edges.dueAll("BEST, GREEDY of less", new int[] {best.best(), best.count(6), best.greedy()}, 0, 0, ZERO);
        best.rate(2, 0);
        Edges.dueAll("BEST, GREEDY of more again", new int[] {best.best(), best.count(6), best.greedy()}, 8, 1, ZERO + 8);

        Edges.of(6, "BAD;");
        for (int what : Edges.outside(0, 3)) {
            Edges.refused("rate of " + what, FILM, PLACING, x -> x.rate(what, 5), Edges.BAD);
        }
        for (int r : Edges.outside(0, 9)) {
            for (int what = 0; what < 4; what++) {
                int which = what;
                Edges.refused("rate to " + r, FILM, PLACING, x -> x.rate(which, r), Edges.BAD);
            }
        }

        Edges.of(6, "NO: it is so.");
        for (int what = 0; what < 4; what++) {
            int which = what;
            Edges.refused("as at first", FILM, PLACING, x -> x.rate(which, first[which]), Edges.NO);
            Edges.refused("0 as told", FILM, x -> x.rate(which, 0), x -> x.rate(which, 0), Edges.NO);
            Edges.refused("9 as told", FILM, x -> x.rate(which, 9), x -> x.rate(which, 9), Edges.NO);
        }
    }

    private static void breath() {
        Edges.of(7, "BREATH is told anew (0 to 9): what it was;");
        GapTellings x = Edges.laid("f30;p5,0,0,2,9;p16,9,9,2,9;");
        Edges.due("to 0", x.breath(0), 1);
        Edges.due("it is 0", x.count(4), 0);
        x.place(0, 0, 5);
        Edges.dueAll("by 0", new int[] {x.why(1, 0, 7), x.best(), x.greedy()}, 0, 18, ZERO + 18);
        Edges.due("to 9", x.breath(9), 0);
        Edges.due("it is 9", x.count(4), 9);
        x.place(0, 0, 5);
        Edges.dueAll("by 9", new int[] {x.why(1, 0, 15), x.why(1, 0, 16), x.best(), x.greedy()}, 4, 0, 18, ZERO + 18);
        GapTellings near = Edges.laid("f30;p5,0,0,2,9;p15,0,0,2,9;");
        Edges.dueAll("ahead of it", new int[] {near.best(), near.greedy()}, 18, ZERO + 18);
        Edges.due("to 8", near.breath(8), 1);
        Edges.dueAll("by 8", new int[] {near.best(), near.greedy()}, 18, ZERO + 18);
        Edges.due("to 9", near.breath(9), 8);
        Edges.dueAll("by 9, one tick too near", new int[] {near.best(), near.greedy()}, 9, ZERO + 9);

        Edges.of(7, "all that is PLACED is taken off.");
        for (int b = 0; b <= 9; b++) {
            if (b == 1) continue;
            GapTellings all = Edges.laid("f60;" + "p0,0,0,2,9;p20,0,0,2,9;p40,0,0,2,9;", 0, 0, 0, 1, 0, 20, 2, 0, 40);
            all.breath(b);
            Edges.dueAll("by " + b, Edges.placed(all), NONE, NONE, NONE, NONE, NONE, NONE);
            Edges.dueAll("by " + b, new int[] {all.count(3), all.value(), all.count(8), all.tick(20)}, 0, ZERO, 0, 0);
        }

        Edges.of(7, "BAD;");
        for (int b : Edges.outside(0, 9)) Edges.refused("breath " + b, FILM, PLACING, y -> y.breath(b), Edges.BAD);

        Edges.of(7, "NO: it is so.");
        Edges.refused("as at first", FILM, PLACING, y -> y.breath(1), Edges.NO);
        Edges.refused("0 as in the text", FILM + "b0;", PLACING, y -> y.breath(0), Edges.NO);
        Edges.refused("9 as told", FILM, y -> {
            y.breath(9);
            y.place(0, 0, 3);
        }, y -> y.breath(9), Edges.NO);
    }

    private static void sound() {
        Edges.of(8, "A SOUND more: how many there are;");
        GapTellings x = Edges.laid("f10;");
        Edges.due("the first", x.sound(0, 0, 1), 1);
        Edges.due("to the film's end", x.sound(1, 9, 10), 2);
        Edges.due("over the whole film", x.sound(2, 0, 10), 3);
        Edges.due("as another one", x.sound(2, 0, 10), 4);
        Edges.dueAll("ticks", Edges.ticks(x), 5, 4, 4, 4, 4, 4, 4, 4, 4, 6);
        GapTellings one = Edges.laid("f1;");
        Edges.due("of a film of one tick", one.sound(0, 0, 1), 1);
        Edges.due("its tick", one.tick(0), 1);
        GapTellings behind = Edges.laid("f10;g0,1;");
        behind.sound(0, 4, 6);
        Edges.due("it is the last", behind.bestIf(1, 2), 0);
        Edges.due("it is the last", behind.bestIf(1, 3), Edges.BAD);
        GapTellings plans = Edges.laid("f10;p4,0,0,2,9;");
        Edges.dueAll("BEST, GREEDY", new int[] {plans.best(), plans.greedy()}, 9, ZERO + 9);
        plans.sound(1, 5, 6);
        Edges.dueAll("BEST, GREEDY by a SONG", new int[] {plans.best(), plans.greedy()}, 6, ZERO + 6);
        plans.sound(0, 5, 6);
        Edges.dueAll("BEST, GREEDY by SPEECH", new int[] {plans.best(), plans.greedy()}, 0, ZERO);
    }

    private static void soundTakesOff() {
        Edges.of(8, "all that is PLACED and has a WHY NOT then is taken off, the lowest PICTURE first, till none has.");
        String film = "f40;p5,0,0,3,9;p10,0,0,3,9;p15,0,0,3,9;p30,0,0,3,9;c0,1;c1,2;";
        int[] all = {0, 0, 5, 1, 0, 10, 2, 0, 15, 3, 0, 30};
        soundLeaves(film, all, 1, 0, 40, 0, 5, 0, 10, 0, 15, 0, 30);
        soundLeaves(film, all, 2, 0, 40, 0, 5, 0, 10, 0, 15, 0, 30);
        soundLeaves(film, all, 0, 8, 10, 0, 5, 0, 10, 0, 15, 0, 30);
        soundLeaves(film, all, 0, 0, 5, 0, 5, 0, 10, 0, 15, 0, 30);
        soundLeaves(film, all, 0, 17, 18, 0, 5, 0, 10, NONE, NONE, 0, 30);
        soundLeaves(film, all, 0, 12, 13, 0, 5, NONE, NONE, NONE, NONE, 0, 30);
        soundLeaves(film, all, 0, 7, 8, NONE, NONE, NONE, NONE, NONE, NONE, 0, 30);
        soundLeaves(film, all, 0, 5, 6, NONE, NONE, NONE, NONE, NONE, NONE, 0, 30);
        soundLeaves(film, all, 0, 32, 33, 0, 5, 0, 10, 0, 15, NONE, NONE);
        soundLeaves(film, all, 0, 0, 40, NONE, NONE, NONE, NONE, NONE, NONE, NONE, NONE);
        // A chain of all seven, each one gone for the one ahead of it.
        StringBuilder chain = new StringBuilder("f14;b0;");
        int[] places = new int[21];
        int[] none = new int[14];
        java.util.Arrays.fill(none, NONE);
        for (int p = 0; p < 7; p++) {
            chain.append("p").append(2 * p).append(",0,0,2,9;").append(p == 0 ? "" : "c" + (p - 1) + "," + p + ";");
            places[3 * p] = p;
            places[3 * p + 2] = 2 * p;
        }
        soundLeaves(chain.toString(), places, 0, 0, 1, none);
        soundLeaves(chain.toString(), places, 1, 0, 14, 0, 0, 0, 2, 0, 4, 0, 6, 0, 8, 0, 10, 0, 12);
    }

    private static void soundLeaves(String film, int[] places, int kind, int from, int to, int... want) {
        GapTellings x = Edges.laid(film, places);
        Edges.due("how many", x.sound(kind, from, to), 1);
        Edges.dueAll("PLACED behind " + kind + " " + from + " " + to, Edges.placed(x), want);
    }

    private static void soundNot() {
        Edges.of(8, "BAD;");
        for (int kind : Edges.outside(0, 2)) {
            Edges.refused("kind " + kind, FILM, PLACING, x -> x.sound(kind, 3, 4), Edges.BAD);
        }
        for (int kind = 0; kind < 3; kind++) {
            int k = kind;
            for (int from : new int[] {-1, Edges.LEAST, 4, 5, Edges.MOST}) {
                Edges.refused("from " + from + " to 4", FILM, PLACING, x -> x.sound(k, from, 4), Edges.BAD);
            }
            for (int to : new int[] {3, 2, 13, 0, -1, Edges.LEAST, Edges.MOST}) {
                Edges.refused("from 3 to " + to, FILM, PLACING, x -> x.sound(k, 3, to), Edges.BAD);
            }
            Edges.refused("from T", FILM, PLACING, x -> x.sound(k, 12, 12), Edges.BAD);
            Edges.refused("behind T", FILM, PLACING, x -> x.sound(k, 12, 13), Edges.BAD);
            Edges.refused("from all to all", FILM, PLACING, x -> x.sound(k, Edges.LEAST, Edges.MOST), Edges.BAD);
        }

        Edges.of(8, "FULL: 12.");
        GapTellings x = Edges.laid("f9;g0,1;");
        for (int i = 2; i <= 12; i++) Edges.due("sound " + i, x.sound(i % 3, 0, 1), i);
        Edges.due("sound 13", x.sound(0, 0, 1), Edges.FULL);
        Edges.refused("sound 13", FILM, y -> {
            PLACING.accept(y);
            for (int i = 3; i <= 12; i++) y.sound(i % 3, 0, 2);
        }, y -> y.sound(0, 0, 12), Edges.FULL);
        Edges.refused("sound 13 behind a text of 12", "f9;p4,0,0,2,9;" + "g4,5;".repeat(12), y -> y.place(0, 0, 4),
            y -> y.sound(0, 0, 9), Edges.FULL);
    }

    private static void hush() {
        Edges.of(9, "A SOUND goes, those behind it are one number lower: how many are left.");
        GapTellings x = Edges.laid("f9;s0,1;g1,3;n3,6;s6,8;");
        Edges.due("the first", x.hush(0), 3);
        Edges.dueAll("ticks", Edges.ticks(x), 0, 2, 2, 4, 4, 4, 1, 1, 0);
        Edges.dueAll("lengths of those behind it", new int[] {longest(x, 0), longest(x, 1), longest(x, 2), longest(x, 3)}, 2, 3, 2, -1);
        Edges.due("one in the midst", x.hush(1), 2);
        Edges.dueAll("ticks", Edges.ticks(x), 0, 2, 2, 0, 0, 0, 1, 1, 0);
        Edges.due("the last", x.hush(1), 1);
        Edges.dueAll("ticks", Edges.ticks(x), 0, 2, 2, 0, 0, 0, 0, 0, 0);
        Edges.due("the only one", x.hush(0), 0);
        Edges.dueAll("ticks", Edges.ticks(x), 0, 0, 0, 0, 0, 0, 0, 0, 0);
        Edges.due("one more", x.sound(1, 0, 1), 1);
        GapTellings full = Edges.laid("f99;" + "n0,1;".repeat(11) + "s5,9;");
        Edges.due("of twelve", full.hush(0), 11);
        Edges.due("the last one's number", longest(full, 10), 4);
        GapTellings stays = Edges.laid(FILM, 0, 0, 3, 1, 0, 8);
        Edges.dueAll("BEST, GREEDY", new int[] {stays.best(), stays.greedy()}, 16, ZERO + 16);
        stays.hush(0);
        Edges.dueAll("PLACED stays", Edges.placed(stays), 0, 3, 0, 8);
        GapTellings plans = Edges.laid("f9;s4,5;g4,5;p4,0,0,1,9;");
        Edges.dueAll("BEST, GREEDY by SPEECH", new int[] {plans.best(), plans.greedy()}, 0, ZERO);
        plans.hush(0);
        Edges.dueAll("BEST, GREEDY by a SONG", new int[] {plans.best(), plans.greedy()}, 6, ZERO + 6);
        plans.hush(0);
        Edges.dueAll("BEST, GREEDY by none", new int[] {plans.best(), plans.greedy()}, 9, ZERO + 9);

        Edges.of(9, "BAD.");
        for (int s : Edges.outside(0, 1)) Edges.refused("hush(" + s + ")", FILM, PLACING, y -> y.hush(s), Edges.BAD);
        for (int s : new int[] {0, 1, -1}) Edges.refused("hush of none", "f9;p4,0,0,2,9;", y -> y.hush(s), Edges.BAD);
        Edges.refused("hush(12)", "f9;" + "n0,1;".repeat(12), y -> y.hush(12), Edges.BAD);
    }

    /** How long a sound is: the most ticks that it could end earlier. */
    private static int longest(GapTellings x, int s) {
        int n = -1;
        while (n < 100 && x.bestIf(s, n + 1) != Edges.BAD) n++;
        return n;
    }

    private static void version() {
        Edges.of(10, "A PICTURE has one VERSION more, behind the others: how many.");
        GapTellings x = Edges.laid("f40;p5,5,5,3,9;p10,5,5,3,8;", 0, 0, 5);
        Edges.due("the longest and worthiest", x.version(0, 30, 99), 2);
        Edges.due("the shortest of the least worth", x.version(0, 1, 1), 3);
        Edges.dueAll("VERSIONS", new int[] {x.told(0, 0, 0), x.told(0, 0, 1), x.told(0, 1, 0), x.told(0, 1, 1), x.told(0, 2, 0),
            x.told(0, 2, 1), x.told(0, 3, 0)}, 3, 9, 30, 99, 1, 1, Edges.BAD);
        Edges.dueAll("how many of each", new int[] {x.picture(0, 3), x.picture(1, 3)}, 3, 1);
        Edges.dueAll("PLACED stays", Edges.placed(x), 0, 5, NONE, NONE);
        GapTellings plans = Edges.laid("f9;p4,0,0,3,5;");
        Edges.dueAll("BEST, GREEDY", new int[] {plans.best(), plans.greedy()}, 5, ZERO + 5);
        plans.version(0, 2, 6);
        Edges.dueAll("BEST, GREEDY by it", new int[] {plans.best(), plans.greedy(), plans.bestOf(0, 0)}, 6, ZERO + 6, 1);
        plans.lay();
        Edges.dueAll("laid again", new int[] {plans.best(), plans.picture(0, 3)}, 5, 1);

        Edges.of(10, "BAD;");
        for (int p : Edges.outside(0, 1)) Edges.refused("picture " + p, FILM, PLACING, y -> y.version(p, 1, 1), Edges.BAD);
        for (int n : Edges.outside(1, 30)) Edges.refused("LENGTH " + n, FILM, PLACING, y -> y.version(1, n, 1), Edges.BAD);
        for (int w : Edges.outside(1, 99)) Edges.refused("WORTH " + w, FILM, PLACING, y -> y.version(1, 1, w), Edges.BAD);
        Edges.refused("without PICTURES", "f9;", y -> y.version(0, 1, 1), Edges.BAD);

        Edges.of(10, "FULL: 3.");
        GapTellings one = Edges.laid("f9;p4,0,0,3,5;");
        Edges.dueAll("one by one", new int[] {one.version(0, 1, 1), one.version(0, 1, 1), one.version(0, 1, 1)}, 2, 3, Edges.FULL);
        Edges.refused("a 4th of a text's three", "f9;p4,0,0,3,5,2,4,1,3;", y -> y.version(0, 1, 99), Edges.FULL);
        Edges.due("another PICTURE is not FULL", Edges.laid("f9;p4,0,0,3,5,2,4,1,3;p4,0,0,1,1;").version(1, 1, 99), 2);
    }
}
