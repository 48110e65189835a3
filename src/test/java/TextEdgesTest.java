/** The edges of films, sounds, pictures and texts: 'What it is', and 'Terms' as far as LAID. */
public final class TextEdgesTest {
    private static final String[] SOUND_LETTERS = {"s", "g", "n"};
    private static final String TWELVE = "f10;" + "s0,1;".repeat(12);
    private static final String SEVEN = "f10;" + "p0,0,0,1,1;".repeat(7);
    private static final String THREE = "f10;p0,0,0,1,1;p4,0,0,1,1;p8,0,0,1,1;";

    public static void main(String[] args) {
        film();
        manyCalls();
        sounds();
        pictures();
        needs();
        letters();
        figures();
        signs();
        itemLetters();
        filmItem();
        soundItem();
        pictureItem();
        needItem();
        breathItem();
        firstFault();
        laid();
        Edges.end("TextEdgesTest", "What it is", "Terms");
    }

    private static void film() {
        Edges.of("What it is", "A FILM has TICKS 0 to T - 1 (T 1 to 100).");
        Edges.lastIsWrong("", "f0;");
        Edges.isRight("f1;");
        Edges.isRight("f100;");
        Edges.lastIsWrong("", "f101;");
        Edges.lastIsWrong("", "f999;");
        GapTellings one = Edges.laid("f1;");
        Edges.due("T of f1;", one.count(0), 1);
        Edges.due("tick(-1) of f1;", one.tick(-1), Edges.BAD);
        Edges.due("tick(0) of f1;", one.tick(0), 0);
        Edges.due("tick(1) of f1;", one.tick(1), Edges.BAD);
        GapTellings hundred = Edges.laid("f100;");
        Edges.due("T of f100;", hundred.count(0), 100);
        Edges.due("tick(0) of f100;", hundred.tick(0), 0);
        Edges.due("tick(99) of f100;", hundred.tick(99), 0);
        Edges.due("tick(100) of f100;", hundred.tick(100), Edges.BAD);
    }

    private static void manyCalls() {
        Edges.of("What it is",
            "An object is used for at most 512 calls after it has been made; what later calls answer is free.");
        GapTellings x = new GapTellings();
        for (int call = 1; call <= 200; call++) Edges.due("call " + call, x.write('b'), call);
        for (int call = 201; call <= 510; call++) Edges.due("call " + call, x.write('b'), Edges.FULL);
        Edges.due("call 511, wipe()", x.wipe(), 200);
        Edges.due("call 512, best()", x.best(), 21);
    }

    private static void sounds() {
        Edges.of("Terms", "SOUNDS (12 at most)");
        Edges.isRight(TWELVE);
        for (String letter : SOUND_LETTERS) Edges.lastIsWrong(TWELVE, letter + "0,1;");
        GapTellings full = Edges.laid(TWELVE);
        Edges.due("a 13th by hand", full.sound(2, 0, 1), Edges.FULL);
        Edges.due("one goes", full.hush(0), 11);
        Edges.due("a 12th by hand", full.sound(2, 0, 1), 12);
        Edges.due("a 13th by hand", full.sound(2, 0, 1), Edges.FULL);

        Edges.of("Terms", "each from a TICK to ahead of another one, of a kind: 0 SPEECH, 1 SONG, 2 NOISE");
        Edges.dueAll("ticks", Edges.ticks(Edges.laid("f10;s2,4;g5,6;n7,10;")), 0, 0, 1, 1, 0, 2, 0, 4, 4, 4);
        GapTellings x = Edges.laid("f10;");
        x.sound(0, 0, 2);
        x.sound(1, 4, 7);
        x.sound(2, 8, 9);
        Edges.dueAll("ticks", Edges.ticks(x), 1, 1, 0, 0, 2, 2, 2, 0, 4, 0);
        Edges.due("kind -1", x.sound(-1, 0, 1), Edges.BAD);
        Edges.due("kind 3", x.sound(3, 0, 1), Edges.BAD);

        Edges.of("Terms", "they may lie over one another.");
        GapTellings over = Edges.laid("f9;s1,5;s1,5;g2,6;n3,7;s4,5;");
        Edges.dueAll("ticks", Edges.ticks(over), 0, 1, 3, 7, 7, 6, 4, 0, 0);
        Edges.due("TICKS with SPEECH", over.count(7), 4);
        over.hush(0);
        Edges.dueAll("ticks with one less of two", Edges.ticks(over), 0, 1, 3, 7, 7, 6, 4, 0, 0);
        over.hush(0);
        Edges.dueAll("ticks with none of two", Edges.ticks(over), 0, 0, 2, 6, 7, 6, 4, 0, 0);
    }

    private static void pictures() {
        Edges.of("Terms", "PICTURES (7 at most)");
        Edges.isRight(SEVEN);
        Edges.lastIsWrong(SEVEN, "p0,0,0,1,1;");
        GapTellings full = Edges.laid(SEVEN);
        Edges.due("PICTURES", full.count(2), 7);
        Edges.due("the 7th", full.picture(6, 3), 1);
        Edges.due("an 8th", full.picture(7, 3), Edges.BAD);

        Edges.of("Terms", "each with its TICK, EARLY (0 to 20) and LATE (0 to 20)");
        GapTellings x = Edges.laid("f60;p0,0,20,1,1;p59,20,0,1,1;");
        Edges.dueAll("lowest, highest", new int[] {x.picture(0, 0), x.picture(0, 1), x.picture(0, 2)}, 0, 0, 20);
        Edges.dueAll("highest, lowest", new int[] {x.picture(1, 0), x.picture(1, 1), x.picture(1, 2)}, 59, 20, 0);
        Edges.lastIsWrong("f60;", "p0,21,0,1,1;");
        Edges.lastIsWrong("f60;", "p0,0,21,1,1;");
        Edges.lastIsWrong("f60;", "p0,99,99,1,1;");

        Edges.of("Terms", "and VERSIONS (1 to 3)");
        Edges.lastIsWrong("f60;", "p0,0,0;");
        Edges.due("one", Edges.laid("f60;p0,0,0,1,1;").picture(0, 3), 1);
        GapTellings three = Edges.laid("f60;p0,0,0,1,1,2,2,3,3;");
        Edges.due("three", three.picture(0, 3), 3);
        Edges.due("a 4th by hand", three.version(0, 1, 1), Edges.FULL);
        Edges.lastIsWrong("f60;", "p0,0,0,1,1,2,2,3,3,4,4;");

        Edges.of("Terms", "each a LENGTH (1 to 30) and a WORTH (1 to 99).");
        GapTellings least = Edges.laid("f60;p0,0,0,1,99,30,1;");
        Edges.dueAll("edges", new int[] {least.told(0, 0, 0), least.told(0, 0, 1), least.told(0, 1, 0), least.told(0, 1, 1)},
            1, 99, 30, 1);
        // Each of the three versions in turn is the wrong one.
        for (String wrong : new String[] {"0,1", "31,1", "1,0", "1,100", "99,1"}) {
            Edges.lastIsWrong("f60;", "p0,0,0," + wrong + ";");
            Edges.lastIsWrong("f60;", "p0,0,0,1,1," + wrong + ";");
            Edges.lastIsWrong("f60;", "p0,0,0,1,1,1,1," + wrong + ";");
        }
    }

    private static void needs() {
        Edges.of("Terms", "A PICTURE may NEED another one of a lower number.");
        Edges.due("none", Edges.laid(SEVEN).picture(6, 4), Edges.NONE);
        Edges.due("the lowest", Edges.laid(SEVEN + "c0,6;").picture(6, 4), 0);
        Edges.due("the next lower", Edges.laid(SEVEN + "c5,6;").picture(6, 4), 5);
        Edges.lastIsWrong(SEVEN, "c6,6;");
        Edges.lastIsWrong(SEVEN, "c6,5;");
        Edges.lastIsWrong(SEVEN, "c0,0;");
    }

    private static void letters() {
        Edges.of("Terms", "A TEXT is letters (200 at most)");
        String two = "f10;" + "b01;".repeat(48) + "b07;";
        GapTellings x = Edges.written(two);
        Edges.due("letters", x.count(5), 200);
        Edges.due("a 201st", x.write(';'), Edges.FULL);
        Edges.due("fault() of 200", x.fault(), Edges.NONE);
        Edges.due("lay() of 200", x.lay(), 0);
        Edges.due("BREATH of its last item", x.count(4), 7);
        Edges.due("lay() of none", new GapTellings().lay(), Edges.NO);
    }

    private static void figures() {
        Edges.of("Terms", "ITEMS one behind the other, each a letter, numbers (one or two figures; T, and where a SOUND ends,"
            + " up to three) parted by , and a ; behind them:");
        for (String film : new String[] {"f5;", "f50;", "f05;", "f100;", "f005;"}) Edges.isRight(film);
        for (String film : new String[] {"f;", "f0005;", "f0100;", "f00000000005;"}) Edges.lastIsWrong("", film);
        for (String s : SOUND_LETTERS) {
            for (String good : new String[] {"1,5;", "01,5;", "1,05;", "1,005;", "01,005;"}) Edges.isRight("f10;" + s + good);
            for (String wrong : new String[] {",5;", "1,;", ",;", "001,5;", "1,0005;", "0001,5;"}) {
                Edges.lastIsWrong("f10;", s + wrong);
            }
        }
        for (int numbers : new int[] {5, 7, 9}) {
            for (int i = 0; i < numbers; i++) {
                Edges.isRight("f10;p" + numbersWith(numbers, i, "01") + ";");
                Edges.lastIsWrong("f10;", "p" + numbersWith(numbers, i, "001") + ";");
                Edges.lastIsWrong("f10;", "p" + numbersWith(numbers, i, "") + ";");
            }
        }
        Edges.isRight(THREE + "c00,01;");
        for (String wrong : new String[] {"c000,1;", "c0,001;", "c,1;", "c0,;"}) Edges.lastIsWrong(THREE, wrong);
        Edges.isRight("f10;b09;");
        for (String wrong : new String[] {"b;", "b009;", "b0009;"}) Edges.lastIsWrong("f10;", wrong);
        // Past 32 bits a number could come round to one that is told.
        Edges.lastIsWrong("", "f4294967306;");
        Edges.lastIsWrong("f10;", "b4294967297;");
    }

    private static String numbersWith(int numbers, int place, String number) {
        StringBuilder all = new StringBuilder();
        for (int i = 0; i < numbers; i++) all.append(i == 0 ? "" : ",").append(i == place ? number : "1");
        return all.toString();
    }

    private static void signs() {
        for (int sign = 32; sign <= 126; sign++) {
            char c = (char) sign;
            boolean figure = c >= '0' && c <= '9';
            Edges.faultIs("f10;s1" + c + "5;", c == ',' ? Edges.NONE : 4);
            Edges.faultIs("f10;s1,5" + c, c == ';' ? Edges.NONE : 4);
            Edges.faultIs("f10;b" + c + ";", figure ? Edges.NONE : 4);
            Edges.faultIs("f9" + c + "b1;", c == ';' ? Edges.NONE : 0);
            Edges.faultIs("f10;b1;" + c, 7);
        }
        for (String wrong : new String[] {"s1,,5;", "s1,5,;", "s,1,5;", "s1;5;", "s 1,5;", "s1,5 ;", "s1,-5;", "s1,+5;"}) {
            Edges.lastIsWrong("f10;", wrong);
        }
        // An item that has no ; is not so, at whichever letter the text ends.
        String whole = "p1,2,3,4,5,6,7,8,9;";
        for (int length = 1; length < whole.length(); length++) Edges.lastIsWrong("f10;", whole.substring(0, length));
        for (int length = 1; length < 5; length++) Edges.lastIsWrong("", "f100;".substring(0, length));
        Edges.isRight("f10;" + whole);
    }

    private static void itemLetters() {
        for (int sign = 32; sign <= 126; sign++) {
            char c = (char) sign;
            Edges.faultIs("f10;" + c + "1;", c == 'b' ? Edges.NONE : 4);
            Edges.faultIs("f10;" + c + "1,2;", "sgn".indexOf(c) >= 0 ? Edges.NONE : 4);
            Edges.faultIs("f10;" + c + "1,2,3,4,5;", c == 'p' ? Edges.NONE : 4);
            Edges.faultIs(THREE + c + "1,2;", "sgnc".indexOf(c) >= 0 ? Edges.NONE : THREE.length());
            Edges.faultIs(c + "1;", c == 'f' ? Edges.NONE : 0);
        }
    }

    private static void filmItem() {
        Edges.of("Terms", "fT the FILM; told just once, ahead of all others");
        Edges.lastIsWrong("f10;", "f10;");
        Edges.lastIsWrong("f10;b1;", "f10;");
        Edges.lastIsWrong("f10;", "f9;");
        for (String first : new String[] {"b1;", "s0,1;", "g0,1;", "n0,1;", "p0,0,0,1,1;", "c0,1;", "p9,0,0,1,1;"}) {
            Edges.faultIs(first, 0);
            Edges.faultIs(first + "f10;", 0);
            Edges.faultIs("f10;" + first + "f10;", first.startsWith("c") ? 4 : 4 + first.length());
        }
        Edges.lastIsWrong("", "f10,10;");
        // That a text told a film does not help the next one.
        GapTellings x = Edges.written("f10;");
        x.fault();
        x.wipe();
        Edges.write(x, "b1;");
        Edges.due("fault() of the next text", x.fault(), 0);
    }

    private static void soundItem() {
        Edges.of("Terms", "sA,B gA,B nA,B SPEECH, a SONG, NOISE more from A to ahead of B (A less than B, B no more than T)");
        for (int kind = 0; kind < 3; kind++) {
            String s = SOUND_LETTERS[kind];
            GapTellings x = Edges.laid("f4;" + s + "1,3;");
            Edges.dueAll("ticks by " + s, Edges.ticks(x), 0, 1 << kind, 1 << kind, 0);
            Edges.due("SOUNDS by " + s, x.count(1), 1);
            Edges.isRight("f10;" + s + "4,5;");
            Edges.lastIsWrong("f10;", s + "5,5;");
            Edges.lastIsWrong("f10;", s + "6,5;");
            Edges.lastIsWrong("f10;", s + "0,0;");
            Edges.isRight("f10;" + s + "0,10;");
            Edges.isRight("f10;" + s + "9,10;");
            Edges.lastIsWrong("f10;", s + "9,11;");
            Edges.lastIsWrong("f10;", s + "10,11;");
            Edges.isRight("f100;" + s + "99,100;");
            Edges.lastIsWrong("f100;", s + "99,101;");
            Edges.isRight("f1;" + s + "0,1;");
            Edges.lastIsWrong("f1;", s + "0,2;");
            Edges.lastIsWrong("f10;", s + "1;");
            Edges.lastIsWrong("f10;", s + "1,2,3;");
        }
        Edges.due("one more each time", Edges.laid("f9;s0,1;g0,1;n0,1;s0,1;").count(1), 4);
    }

    private static void pictureItem() {
        Edges.of("Terms", "pP,E,L,N,W (,N,W once or twice more) a PICTURE more: its TICK P (less than T), EARLY, LATE,"
            + " VERSIONS of LENGTHS N, WORTHS W");
        for (int numbers = 1; numbers <= 13; numbers++) {
            String item = "p" + numbersWith(numbers, 0, "1") + ";";
            Edges.faultIs("f10;" + item, numbers == 5 || numbers == 7 || numbers == 9 ? Edges.NONE : 4);
        }
        Edges.isRight("f1;p0,0,0,1,1;");
        Edges.lastIsWrong("f1;", "p1,0,0,1,1;");
        Edges.isRight("f10;p9,0,0,1,1;");
        Edges.lastIsWrong("f10;", "p10,0,0,1,1;");
        Edges.isRight("f100;p99,0,0,1,1;");
        GapTellings x = Edges.laid("f90;p1,2,3,4,5,6,7,8,9;p11,12,13,14,15;");
        Edges.dueAll("TICK, EARLY, LATE, VERSIONS",
            new int[] {x.picture(0, 0), x.picture(0, 1), x.picture(0, 2), x.picture(0, 3)}, 1, 2, 3, 3);
        for (int v = 0; v < 3; v++) {
            Edges.due("LENGTH " + v, x.told(0, v, 0), 4 + 2 * v);
            Edges.due("WORTH " + v, x.told(0, v, 1), 5 + 2 * v);
        }
        Edges.dueAll("one more", new int[] {x.picture(1, 0), x.picture(1, 1), x.picture(1, 2), x.picture(1, 3),
            x.told(1, 0, 0), x.told(1, 0, 1), x.told(1, 1, 0)}, 11, 12, 13, 1, 14, 15, Edges.BAD);
    }

    private static void needItem() {
        Edges.of("Terms", "cI,J PICTURE J NEEDS PICTURE I (both told ahead of it, I less than J, J NEEDS none yet)");
        GapTellings x = Edges.laid(THREE + "c0,1;c1,2;");
        Edges.dueAll("NEEDS", new int[] {x.picture(0, 4), x.picture(1, 4), x.picture(2, 4)}, Edges.NONE, 0, 1);
        Edges.isRight(THREE + "c0,1;c0,2;");
        Edges.isRight(THREE + "c1,2;");
        Edges.lastIsWrong(THREE, "c1,3;");
        Edges.lastIsWrong(THREE, "c3,4;");
        Edges.lastIsWrong(SEVEN, "c6,7;");
        Edges.lastIsWrong(SEVEN, "c0,99;");
        Edges.faultIs("f10;p0,0,0,1,1;c0,1;p4,0,0,1,1;", 15);
        Edges.faultIs("f10;c0,1;p0,0,0,1,1;p4,0,0,1,1;", 4);
        Edges.isRight("f10;p0,0,0,1,1;p4,0,0,1,1;c0,1;p8,0,0,1,1;");
        Edges.lastIsWrong(THREE, "c1,1;");
        Edges.lastIsWrong(THREE, "c2,1;");
        Edges.lastIsWrong(THREE + "c0,2;", "c0,2;");
        Edges.lastIsWrong(THREE + "c0,2;", "c1,2;");
        Edges.lastIsWrong(THREE + "c1,2;", "c0,2;");
        Edges.lastIsWrong(THREE, "c0;");
        Edges.lastIsWrong(THREE, "c0,1,2;");
        // What another text told is none of this one's.
        GapTellings y = Edges.laid(THREE + "c0,1;");
        Edges.relaid(y, THREE);
        Edges.due("NEEDS is not kept", y.picture(1, 4), Edges.NONE);
        Edges.relaid(y, THREE + "c0,1;");
        Edges.due("NEEDS is told again", y.picture(1, 4), 0);
        GapTellings z = Edges.laid(THREE);
        z.wipe();
        Edges.write(z, "f10;p0,0,0,1,1;c0,1;");
        Edges.due("a picture of the text before", z.fault(), 15);
    }

    private static void breathItem() {
        Edges.of("Terms", "bB BREATH B (0 to 9; 1 without); it may stand anywhere behind f, of several the last one counts");
        Edges.due("b0;", Edges.laid("f10;b0;").count(4), 0);
        Edges.due("b9;", Edges.laid("f10;b9;").count(4), 9);
        Edges.lastIsWrong("f10;", "b10;");
        Edges.lastIsWrong("f10;", "b99;");
        Edges.lastIsWrong("f10;", "b1,1;");
        GapTellings x = Edges.laid("f10;b5;");
        Edges.relaid(x, "f10;");
        Edges.due("without", x.count(4), 1);
        Edges.due("at the end", Edges.laid(THREE + "s9,10;c0,1;b4;").count(4), 4);
        Edges.due("right behind f", Edges.laid("f10;b4;s9,10;p0,0,0,1,1;").count(4), 4);
        Edges.due("between pictures", Edges.laid("f10;p0,0,0,1,1;b4;p0,0,0,1,1;c0,1;").count(4), 4);
        Edges.due("of several", Edges.laid("f10;b9;b3;s0,1;b0;").count(4), 0);
        Edges.faultIs("b1;f10;", 0);
    }

    private static void firstFault() {
        Edges.of("Terms", "FAULT: the place of the first letter of the first ITEM that is not so.");
        Edges.faultIs("", Edges.NONE);
        Edges.faultIs("x", 0);
        Edges.faultIs("f10;x;y;", 4);
        Edges.faultIs("f10;b1;s5,4;b10;", 7);
        Edges.faultIs("f10;s0,1;s3,99;f10;", 9);
        Edges.faultIs("f10;p1,1,1,1,0;", 4);
        Edges.faultIs("f0;f10;", 0);
        Edges.faultIs("f10;b1;b", 7);
        String most = "f10;" + "b01;".repeat(48);
        Edges.faultIs(most + "b10;", 196);
        Edges.faultIs(most + "b1;x", 199);
    }

    private static void laid() {
        Edges.of("Terms", "LAID is a TEXT without FAULT, not empty (NO else; at first f60;s0,6;s14,20;g20,28;s33,40;n44,50;"
            + "p8,4,4,6,9,3,5;p18,6,8,7,12,4,7;p30,9,5,8,20,5,12,2,6;p42,3,9,5,8;p55,9,2,4,6,2,3;c1,2;b1;)");
        Edges.due("lay() of the empty text", new GapTellings().lay(), Edges.NO);
        Edges.due("lay() of the shortest text", Edges.written("f1;").lay(), 0);
        Edges.due("lay() of a fault at its end", Edges.written("f1;b").lay(), Edges.NO);
        Edges.due("lay() of a fault at its begin", Edges.written("f0;b1;").lay(), Edges.NO);
        GapTellings first = new GapTellings();
        int[][] pictures = {{8, 4, 4, 6, 9, 3, 5}, {18, 6, 8, 7, 12, 4, 7}, {30, 9, 5, 8, 20, 5, 12, 2, 6},
            {42, 3, 9, 5, 8}, {55, 9, 2, 4, 6, 2, 3}};
        for (int p = 0; p < 5; p++) {
            int[] n = pictures[p];
            for (int what = 0; what < 3; what++) Edges.due("picture " + p, first.picture(p, what), n[what]);
            Edges.due("its versions", first.picture(p, 3), (n.length - 3) / 2);
            Edges.due("its need", first.picture(p, 4), p == 2 ? 1 : Edges.NONE);
            for (int i = 3; i < n.length; i++) Edges.due("version of " + p, first.told(p, (i - 3) / 2, (i - 3) % 2), n[i]);
        }
        int[][] sounds = {{0, 6, 1}, {14, 20, 1}, {20, 28, 2}, {33, 40, 1}, {44, 50, 4}};
        for (int t = 0; t < 60; t++) {
            int want = 0;
            for (int[] s : sounds) want |= s[0] <= t && t < s[1] ? s[2] : 0;
            Edges.due("tick " + t, first.tick(t), want);
        }
        Edges.dueAll("T, SOUNDS, PICTURES, BREATH", new int[] {first.count(0), first.count(1), first.count(2), first.count(4)},
            60, 5, 5, 1);

        Edges.of("Terms", "nothing is PLACED; RATES are EARLY 2, LATE 1, SONG 3, NOISE 1 for each TICK.");
        GapTellings x = Edges.laid(THREE, 0, 0, 0, 2, 0, 8);
        for (int what = 0; what < 4; what++) x.rate(what, 9);
        x.lay();
        Edges.dueAll("what is PLACED", Edges.placed(x), Edges.NONE, Edges.NONE, Edges.NONE, Edges.NONE, Edges.NONE, Edges.NONE);
        Edges.dueAll("PLACED and RATES", new int[] {x.count(3), x.count(9), x.count(10), x.count(11), x.count(12)}, 0, 2, 1, 3, 1);
        Edges.dueAll("at first", new int[] {first.count(3), first.count(9), first.count(10), first.count(11), first.count(12)},
            0, 2, 1, 3, 1);
    }
}
