/** Each promise by its number: ordinary inputs, the edges that the document names, and wrong inputs. */
public final class PromisesTest {
    private static final int BAD = -1, NO = -2, FULL = -3, NONE = -4, ZERO = 100000;
    private static int wrong = 0;
    private static int promise = 0;

    public static void main(String[] args) {
        aNewObject();
        write();
        wipe();
        faultOfFilmsAndSounds();
        faultOfPictures();
        faultOfNeedsAndBreaths();
        lay();
        rate();
        breath();
        sound();
        hush();
        version();
        place();
        off();
        why();
        gain();
        value();
        adopt();
        picture();
        told();
        tick();
        silence();
        best();
        bestOf();
        bestBy();
        bestIf();
        bestBreath();
        greedy();
        greedyOf();
        count();
        System.out.println(wrong == 0 ? "PromisesTest: all as due" : "PromisesTest: " + wrong + " wrong");
        if (wrong != 0) System.exit(1);
    }

    private static void due(String call, int got, int want) {
        if (got != want) {
            wrong++;
            System.out.println("promise " + promise + ": " + call + " answered " + got + ", due is " + want);
        }
    }

    private static GapTellings written(String text) {
        GapTellings x = new GapTellings();
        rewrite(x, text);
        return x;
    }

    private static void rewrite(GapTellings x, String text) {
        x.wipe();
        for (char c : text.toCharArray()) x.write(c);
    }

    private static GapTellings laid(String text) {
        GapTellings x = written(text);
        if (x.lay() < 0) {
            wrong++;
            System.out.println("promise " + promise + ": is not laid: " + text);
        }
        return x;
    }

    private static void faultIs(String text, int place) {
        due("fault() of " + text, written(text).fault(), place);
    }

    private static void aNewObject() {
        promise = 1;
        GapTellings x = new GapTellings();
        GapTellings same = laid(PlainModel.FIRST);
        due("count(5)", x.count(5), 0);
        due("wipe()", x.wipe(), 0);
        due("lay() of an empty text", x.lay(), NO);
        for (int what = 0; what <= 12; what++) {
            if (what != 5) due("count " + what, x.count(what), same.count(what));
        }
        for (int p = 0; p < 5; p++) {
            for (int what = 0; what <= 6; what++) due("picture", x.picture(p, what), same.picture(p, what));
            for (int v = 0; v < 3; v++) {
                due("LENGTH", x.told(p, v, 0), same.told(p, v, 0));
                due("WORTH", x.told(p, v, 1), same.told(p, v, 1));
            }
        }
        for (int t = 0; t < 60; t++) due("tick", x.tick(t), same.tick(t));
        due("value()", x.value(), ZERO);
        due("best()", x.best(), 21);
        due("picture(5, 0)", x.picture(5, 0), BAD);
    }

    private static void write() {
        promise = 2;
        GapTellings x = new GapTellings();
        due("write(31)", x.write(31), BAD);
        due("write(127)", x.write(127), BAD);
        due("write(-1)", x.write(-1), BAD);
        due("write far out", x.write(Integer.MAX_VALUE), BAD);
        due("count(5)", x.count(5), 0);
        for (int i = 1; i <= 200; i++) due("write " + i, x.write(i % 2 == 0 ? 32 : 126), i);
        due("write of a 201st", x.write(65), FULL);
        due("write of a bad 201st", x.write(127), BAD);
        due("count(5)", x.count(5), 200);
    }

    private static void wipe() {
        promise = 3;
        GapTellings x = written("f10;b2;");
        due("wipe()", x.wipe(), 7);
        due("count(5)", x.count(5), 0);
        due("wipe() again", x.wipe(), 0);
        due("fault()", x.fault(), NONE);
        due("write()", x.write('f'), 1);
        due("T stays", x.count(0), 60);
    }

    private static void faultOfFilmsAndSounds() {
        promise = 4;
        faultIs("", NONE);
        faultIs("f1;", NONE);
        faultIs("f100;", NONE);
        faultIs("f007;", NONE);
        faultIs("f0;", 0);
        faultIs("f101;", 0);
        faultIs("f0010;", 0);
        faultIs("f;", 0);
        faultIs("f10", 0);
        faultIs("f", 0);
        faultIs(";", 0);
        faultIs("f10,;", 0);
        faultIs("f10,1;", 0);
        faultIs("f-1;", 0);
        faultIs(" f10;", 0);
        faultIs("b1;f10;", 0);
        faultIs("s0,1;", 0);
        faultIs("f10; ", 4);
        faultIs("f10;;", 4);
        faultIs("f10;x1;", 4);
        faultIs("f10;F10;", 4);
        faultIs("f10;f10;", 4);
        faultIs("f10;s0,10;g9,10;n0,1;", NONE);
        faultIs("f100;s99,100;", NONE);
        faultIs("f10;s00,010;", NONE);
        faultIs("f10;s000,10;", 4);
        faultIs("f10;s0,0010;", 4);
        faultIs("f10;s5,5;", 4);
        faultIs("f10;g5,4;", 4);
        faultIs("f10;n5,11;", 4);
        faultIs("f10;s5;", 4);
        faultIs("f10;s1,2,3;", 4);
        faultIs("f10;s1,2,;", 4);
        faultIs("f10;s,2;", 4);
        faultIs("f10;s1,2", 4);
        faultIs("f10;s1;2;", 4);
        faultIs("f10;s0,1;s1,2;s3,3;s0,0;", 14);
        String twelve = "f10;" + "s0,1;".repeat(12);
        faultIs(twelve, NONE);
        faultIs(twelve + "n0,1;", 64);
    }

    private static void faultOfPictures() {
        faultIs("f10;p9,20,20,30,99;", NONE);
        faultIs("f10;p0,0,0,1,1;", NONE);
        faultIs("f10;p09,00,00,01,01;", NONE);
        faultIs("f10;p0,0,0,1,1,2,2;", NONE);
        faultIs("f10;p0,0,0,1,1,2,2,3,3;", NONE);
        faultIs("f10;p0,0,0,1,1,2,2,3,3,4,4;", 4);
        faultIs("f10;p0,0,0;", 4);
        faultIs("f10;p0,0,0,1;", 4);
        faultIs("f10;p0,0,0,1,1,2;", 4);
        faultIs("f10;p0,0,0,1,1,2,2,3;", 4);
        faultIs("f10;p10,0,0,1,1;", 4);
        faultIs("f10;p0,21,0,1,1;", 4);
        faultIs("f10;p0,0,21,1,1;", 4);
        faultIs("f10;p0,0,0,0,1;", 4);
        faultIs("f10;p0,0,0,31,1;", 4);
        faultIs("f10;p0,0,0,1,0;", 4);
        faultIs("f10;p0,0,0,1,1,0,1;", 4);
        faultIs("f10;p0,0,0,1,1,1,1,31,1;", 4);
        faultIs("f10;p0,0,0,1,1,1,1,1,0;", 4);
        faultIs("f10;p000,0,0,1,1;", 4);
        faultIs("f10;p0,0,0,001,1;", 4);
        faultIs("f10;p0,0,0,1,100;", 4);
        String seven = "f10;" + "p0,0,0,1,1;".repeat(7);
        faultIs(seven, NONE);
        faultIs(seven + "p0,0,0,1,1;", 81);
    }

    private static void faultOfNeedsAndBreaths() {
        String three = "f10;p0,0,0,1,1;p1,0,0,1,1;p2,0,0,1,1;";
        faultIs(three + "c0,1;c0,2;", NONE);
        faultIs(three + "c0,1;c1,2;", NONE);
        faultIs(three + "c00,01;", NONE);
        faultIs(three + "c1,1;", 37);
        faultIs(three + "c2,1;", 37);
        faultIs(three + "c0,3;", 37);
        faultIs(three + "c0,2;c1,2;", 42);
        faultIs(three + "c0,2;c0,2;", 42);
        faultIs(three + "c0;", 37);
        faultIs(three + "c0,1,2;", 37);
        faultIs(three + "c000,1;", 37);
        faultIs("f10;p0,0,0,1,1;c0,1;p1,0,0,1,1;", 15);
        GapTellings again = written("f10;" + "p0,0,0,1,1;".repeat(7));
        due("fault()", again.fault(), NONE);
        rewrite(again, three + "c0,3;");
        due("an earlier text's pictures are none of this one", again.fault(), 37);
        String full = "f10;" + "b1;".repeat(65);
        faultIs(full + "b", 199);
        faultIs(full.substring(0, 193) + "b000111", 193);
        faultIs("f10;b0;b9;b09;", NONE);
        faultIs("f10;b10;", 4);
        faultIs("f10;b009;", 4);
        faultIs("f10;b1,1;", 4);
        faultIs("f10;b;", 4);
    }

    private static void lay() {
        promise = 5;
        GapTellings x = laid("f20;p5,2,2,3,9;b3;p9,9,9,1,1;b4;g1,3;");
        due("count(5)", x.count(5), 37);
        due("T", x.count(0), 20);
        due("BREATH", x.count(4), 4);
        due("SOUNDS", x.count(1), 1);
        due("PICTURES", x.count(2), 2);
        due("place", x.place(0, 0, 5), ZERO + 9);
        x.rate(0, 9);
        x.rate(1, 8);
        x.rate(2, 7);
        x.rate(3, 6);
        x.version(1, 2, 2);
        due("lay() again", x.lay(), 2);
        due("PLACED", x.count(3), 0);
        due("EARLY", x.count(9), 2);
        due("LATE", x.count(10), 1);
        due("SONG", x.count(11), 3);
        due("NOISE", x.count(12), 1);
        due("VERSIONS", x.picture(1, 3), 1);
        x.place(0, 0, 5);
        x.rate(0, 5);
        rewrite(x, "f20;f20;");
        due("lay() of a fault", x.lay(), NO);
        x.wipe();
        due("lay() of nothing", x.lay(), NO);
        due("PLACED stays", x.count(3), 1);
        due("RATE stays", x.count(9), 5);
        rewrite(x, "f7;");
        due("lay() without pictures", x.lay(), 0);
        due("BREATH without", x.count(4), 1);
        due("best()", x.best(), 0);
        due("bestBy(0)", x.bestBy(0), 0);
        due("bestBy(1)", x.bestBy(1), BAD);
        due("picture(0, 0)", x.picture(0, 0), BAD);
        due("greedy()", x.greedy(), ZERO);
        due("hush(0)", x.hush(0), BAD);
        due("adopt()", x.adopt(), 0);
    }

    private static void rate() {
        promise = 6;
        GapTellings x = laid("f20;p10,5,5,2,50;g5,7;n6,8;");
        due("rate(0, 2)", x.rate(0, 2), NO);
        due("rate(4, 2)", x.rate(4, 2), BAD);
        due("rate(-1, 2)", x.rate(-1, 2), BAD);
        due("rate(0, -1)", x.rate(0, -1), BAD);
        due("rate(0, 10)", x.rate(0, 10), BAD);
        due("place", x.place(0, 0, 6), ZERO + 50 - 8 - 3 - 1);
        due("rate(0, 9)", x.rate(0, 9), 2);
        due("value()", x.value(), ZERO + 50 - 36 - 3 - 1);
        due("rate(2, 0)", x.rate(2, 0), 3);
        due("rate(3, 5)", x.rate(3, 5), 1);
        due("value()", x.value(), ZERO + 50 - 36 - 5);
        due("rate(1, 7)", x.rate(1, 7), 1);
        due("gain", x.gain(0, 0, 13), ZERO + 50 - 21);
        due("count(10)", x.count(10), 7);
    }

    private static void breath() {
        promise = 7;
        GapTellings x = laid("f20;p5,5,5,3,9;p9,5,5,3,9;b2;");
        x.place(0, 0, 3);
        due("breath(2)", x.breath(2), NO);
        due("breath(-1)", x.breath(-1), BAD);
        due("breath(10)", x.breath(10), BAD);
        due("PLACED", x.count(3), 1);
        due("why", x.why(1, 0, 7), 4);
        due("breath(0)", x.breath(0), 2);
        due("PLACED", x.count(3), 0);
        x.place(0, 0, 3);
        due("why", x.why(1, 0, 6), 0);
        due("breath(9)", x.breath(9), 0);
        due("count(4)", x.count(4), 9);
    }

    private static void sound() {
        promise = 8;
        GapTellings x = laid("f40;p5,5,5,3,9;p10,5,5,3,9;p15,5,5,3,9;p30,5,5,3,9;c0,1;c1,2;");
        for (int p = 0; p < 4; p++) x.place(p, 0, x.picture(p, 0));
        due("sound(-1, 0, 1)", x.sound(-1, 0, 1), BAD);
        due("sound(3, 0, 1)", x.sound(3, 0, 1), BAD);
        due("sound(0, -1, 1)", x.sound(0, -1, 1), BAD);
        due("sound(0, 3, 3)", x.sound(0, 3, 3), BAD);
        due("sound(0, 39, 41)", x.sound(0, 39, 41), BAD);
        due("sound far out", x.sound(0, Integer.MIN_VALUE, Integer.MAX_VALUE), BAD);
        due("a SONG", x.sound(1, 0, 40), 1);
        due("NOISE", x.sound(2, 0, 40), 2);
        due("PLACED", x.count(3), 4);
        due("SPEECH beside all", x.sound(0, 8, 10), 3);
        due("PLACED", x.count(3), 4);
        due("SPEECH over the middle one", x.sound(0, 12, 13), 4);
        due("PLACED", x.count(3), 2);
        due("the first one", x.picture(0, 6), 5);
        due("the middle one", x.picture(1, 6), NONE);
        due("the one behind it", x.picture(2, 5), NONE);
        due("another one", x.picture(3, 6), 30);
        for (int i = 5; i <= 12; i++) due("sound more", x.sound(i % 3, 39, 40), i);
        due("a 13th", x.sound(1, 0, 1), FULL);
        due("a bad 13th", x.sound(1, 1, 1), BAD);
    }

    private static void hush() {
        promise = 9;
        GapTellings x = laid("f10;s0,2;g2,4;n4,6;p1,0,0,1,5;");
        due("hush(-1)", x.hush(-1), BAD);
        due("hush(3)", x.hush(3), BAD);
        due("best()", x.best(), 0);
        due("hush(0)", x.hush(0), 2);
        due("best()", x.best(), 5);
        due("tick(0)", x.tick(0), 0);
        due("the SONG is the first now", x.hush(0), 1);
        due("tick(2)", x.tick(2), 0);
        due("tick(4)", x.tick(4), 4);
        due("hush(1)", x.hush(1), BAD);
        due("hush(0)", x.hush(0), 0);
        due("hush(0)", x.hush(0), BAD);
    }

    private static void version() {
        promise = 10;
        GapTellings x = laid("f40;p5,5,5,3,9;p10,5,5,3,9;");
        due("version(2, 1, 1)", x.version(2, 1, 1), BAD);
        due("version(-1, 1, 1)", x.version(-1, 1, 1), BAD);
        due("version(0, 0, 1)", x.version(0, 0, 1), BAD);
        due("version(0, 31, 1)", x.version(0, 31, 1), BAD);
        due("version(0, 1, 0)", x.version(0, 1, 0), BAD);
        due("version(0, 1, 100)", x.version(0, 1, 100), BAD);
        due("version(0, 30, 99)", x.version(0, 30, 99), 2);
        due("version(0, 1, 1)", x.version(0, 1, 1), 3);
        due("version(0, 1, 1)", x.version(0, 1, 1), FULL);
        due("told", x.told(0, 1, 0), 30);
        due("told", x.told(0, 1, 1), 99);
        due("told", x.told(0, 2, 0), 1);
        due("best()", x.best(), 99);
        due("picture(0, 3)", x.picture(0, 3), 3);
        due("picture(1, 3)", x.picture(1, 3), 1);
    }

    private static void place() {
        promise = 11;
        GapTellings x = laid("f40;p5,5,5,3,9,4,1;p10,5,5,3,9;g20,40;");
        due("place(2, 0, 5)", x.place(2, 0, 5), BAD);
        due("place(0, 2, 5)", x.place(0, 2, 5), BAD);
        due("place(0, -1, 5)", x.place(0, -1, 5), BAD);
        due("place(0, 0, -1)", x.place(0, 0, -1), BAD);
        due("place(0, 0, 40)", x.place(0, 0, 40), BAD);
        due("place(0, 0, 11)", x.place(0, 0, 11), NO);
        due("place(0, 0, 5)", x.place(0, 0, 5), ZERO + 9);
        due("place(1, 0, 8)", x.place(1, 0, 8), NO);
        due("place(1, 0, 9)", x.place(1, 0, 9), ZERO + 7);
        due("place(0, 1, 5)", x.place(0, 1, 5), NO);
        due("its version", x.picture(0, 5), 0);
        due("place(0, 1, 4)", x.place(0, 1, 4), ZERO + 1 - 2);
        due("its version", x.picture(0, 5), 1);
        due("its tick", x.picture(0, 6), 4);
        due("count(3)", x.count(3), 2);
    }

    private static void off() {
        promise = 12;
        GapTellings x = laid("f60;p0,0,9,2,9;p10,0,9,2,9;p20,0,9,2,9;p30,0,9,2,9;p40,0,9,2,9;c0,1;c1,2;c0,4;");
        due("off(0)", x.off(0), NO);
        due("off(5)", x.off(5), BAD);
        due("off(-1)", x.off(-1), BAD);
        for (int p = 0; p < 5; p++) x.place(p, 0, 10 * p);
        due("off(2)", x.off(2), 1);
        due("off(2) again", x.off(2), NO);
        x.place(2, 0, 20);
        due("off(1)", x.off(1), 2);
        due("count(3)", x.count(3), 3);
        x.place(1, 0, 10);
        x.place(2, 0, 20);
        due("off(0)", x.off(0), 4);
        due("what is left", x.picture(3, 6), 30);
        due("count(3)", x.count(3), 1);
    }

    private static void why() {
        promise = 13;
        GapTellings x = laid("f40;s0,2;p6,6,20,3,9;p12,9,20,3,9,30,1;c0,1;b2;");
        due("1", x.why(0, 0, 38), 1);
        due("1 ahead of 2", x.why(1, 1, 39), 1);
        due("ends by T", x.why(1, 1, 10), 5);
        due("one more", x.why(1, 1, 11), 1);
        due("2 early", x.why(1, 0, 2), 2);
        due("2 late", x.why(0, 0, 27), 2);
        due("last tick of late", x.why(0, 0, 26), 0);
        due("3", x.why(0, 0, 1), 3);
        due("none", x.why(0, 0, 2), 0);
        due("5: not placed", x.why(1, 0, 12), 5);
        x.place(0, 0, 10);
        due("4 ahead", x.why(1, 0, 6), 4);
        due("4 behind", x.why(1, 0, 14), 4);
        due("5: it ends later", x.why(1, 0, 5), 5);
        due("none behind", x.why(1, 0, 15), 0);
        x.place(1, 0, 15);
        due("not itself", x.why(1, 0, 16), 0);
        due("4 by the one that needs it", x.why(0, 0, 11), 4);
        due("6", x.why(0, 0, 20), 6);
        due("4 ahead of 6", x.why(0, 0, 19), 4);
        due("none", x.why(0, 0, 10), 0);
        due("BAD picture", x.why(2, 0, 0), BAD);
        due("BAD version", x.why(0, 1, 0), BAD);
        due("BAD tick", x.why(0, 0, 40), BAD);
        due("BAD tick", x.why(0, 0, -1), BAD);
        due("BAD tick", x.why(0, 0, Integer.MAX_VALUE), BAD);
        GapTellings zero = laid("f10;p2,2,5,2,5;p4,4,5,2,5;c0,1;b0;");
        zero.place(0, 0, 2);
        due("ends at t", zero.why(1, 0, 4), 0);
        due("shares a tick", zero.why(1, 0, 3), 4);
        due("ends where it begins", zero.why(1, 0, 0), 5);
        zero.place(1, 0, 6);
        due("ends where the one that needs it begins", zero.why(0, 0, 4), 0);
        due("a tick later", zero.why(0, 0, 5), 4);
    }

    private static void gain() {
        promise = 14;
        GapTellings x = laid("f30;s0,4;g2,6;g3,5;n5,8;p10,5,5,4,20,8,3;");
        due("at its tick", x.gain(0, 0, 10), ZERO + 20);
        due("early", x.gain(0, 0, 8), ZERO + 20 - 4);
        due("late", x.gain(0, 0, 12), ZERO + 20 - 2);
        due("noise", x.gain(0, 0, 7), ZERO + 20 - 6 - 1);
        due("song ahead of noise", x.gain(0, 0, 5), ZERO + 20 - 10 - 3 - 2);
        due("songs over one another", x.gain(0, 0, 2), ZERO + 20 - 16 - 12);
        due("out of its ticks", x.gain(0, 0, 26), ZERO + 20 - 16);
        due("not by T", x.gain(0, 0, 27), BAD);
        due("below zero", x.gain(0, 1, 0), ZERO + 3 - 20 - 12 - 2);
        due("BAD picture", x.gain(1, 0, 0), BAD);
        due("BAD version", x.gain(0, 2, 0), BAD);
        due("BAD tick", x.gain(0, 0, 30), BAD);
        due("BAD tick", x.gain(0, 0, -1), BAD);
    }

    private static void value() {
        promise = 15;
        GapTellings x = laid("f30;p5,5,5,2,9;p15,5,5,2,1;");
        due("nothing", x.value(), ZERO);
        x.place(0, 0, 5);
        due("one", x.value(), ZERO + 9);
        x.place(1, 0, 10);
        due("two", x.value(), ZERO + 9 - 9);
        x.off(0);
        due("below zero", x.value(), ZERO - 9);
    }

    private static void adopt() {
        promise = 16;
        GapTellings x = laid("f30;p5,5,5,2,9;p15,5,5,2,1;p25,0,0,2,1;s25,26;");
        x.place(1, 0, 10);
        due("adopt()", x.adopt(), 2);
        due("value()", x.value(), ZERO + 10);
        due("moved", x.picture(1, 6), 15);
        due("not in it", x.picture(2, 6), NONE);
        x.sound(0, 0, 12);
        due("adopt() takes off what BEST has not", x.adopt(), 1);
        due("gone", x.picture(0, 5), NONE);
        x.sound(0, 0, 30);
        due("adopt() of none", x.adopt(), 0);
    }

    private static void picture() {
        promise = 17;
        GapTellings x = laid("f30;p5,6,7,2,9;p15,0,20,2,1,3,2;c0,1;");
        int[][] want = {{5, 6, 7, 1, NONE, NONE, NONE}, {15, 0, 20, 2, 0, NONE, NONE}};
        for (int p = 0; p < 2; p++) {
            for (int what = 0; what < 7; what++) due("picture " + p + " " + what, x.picture(p, what), want[p][what]);
            due("picture 7", x.picture(p, 7), BAD);
            due("picture -1", x.picture(p, -1), BAD);
        }
        due("picture(2, 0)", x.picture(2, 0), BAD);
        due("picture(-1, 0)", x.picture(-1, 0), BAD);
        x.place(0, 0, 0);
        x.place(1, 1, 16);
        due("tick 0", x.picture(0, 6), 0);
        due("version", x.picture(1, 5), 1);
        due("tick", x.picture(1, 6), 16);
    }

    private static void told() {
        promise = 18;
        GapTellings x = laid("f20;s0,3;p5,5,2,3,9;p8,4,20,3,1,18,4;c0,1;n6,9;");
        due("LENGTH", x.told(1, 1, 0), 18);
        due("WORTH", x.told(1, 1, 1), 4);
        due("now", x.told(0, 0, 2), 5);
        due("now, with a need", x.told(1, 0, 2), 0);
        due("by 1, 2, 3", x.told(1, 0, 3), 14);
        due("nowhere", x.told(1, 1, 3), 0);
        due("greatest of none", x.told(1, 1, 4), NONE);
        due("greatest", x.told(0, 0, 4), ZERO + 9 - 2);
        x.place(0, 0, 5);
        due("itself is not in its way", x.told(0, 0, 2), 5);
        due("behind it", x.told(1, 0, 2), 9);
        due("by 1, 2, 3 the same", x.told(1, 0, 3), 14);
        due("greatest is the same", x.told(1, 0, 4), ZERO + 1 - 1);
        due("what 5", x.told(0, 0, 5), BAD);
        due("what -1", x.told(0, 0, -1), BAD);
        due("version 1", x.told(0, 1, 0), BAD);
        due("picture 2", x.told(2, 0, 0), BAD);
    }

    private static void tick() {
        promise = 19;
        GapTellings x = laid("f10;s0,3;g2,5;n2,7;p5,0,0,2,20;");
        int[] want = {1, 1, 7, 6, 6, 4, 4, 0, 0, 0};
        for (int t = 0; t < 10; t++) due("tick " + t, x.tick(t), want[t]);
        x.place(0, 0, 5);
        due("tick 4", x.tick(4), 6);
        due("tick 5", x.tick(5), 12);
        due("tick 6", x.tick(6), 12);
        due("tick 7", x.tick(7), 0);
        due("tick 10", x.tick(10), BAD);
        due("tick -1", x.tick(-1), BAD);
    }

    private static void silence() {
        promise = 20;
        GapTellings x = laid("f20;s3,5;s5,6;s9,12;p6,0,0,2,9;p15,0,0,5,9;");
        due("how many", x.silence(-1, 0), 3);
        int[][] want = {{0, 3, 0}, {6, 3, 2}, {12, 8, 5}};
        x.place(0, 0, 6);
        x.place(1, 0, 15);
        for (int i = 0; i < 3; i++) {
            for (int what = 0; what < 3; what++) due("silence " + i + " " + what, x.silence(i, what), want[i][what]);
        }
        due("not so many", x.silence(3, 0), NONE);
        due("far out", x.silence(Integer.MAX_VALUE, 2), NONE);
        due("i -2", x.silence(-2, 0), BAD);
        due("what 3", x.silence(0, 3), BAD);
        due("what -1", x.silence(0, -1), BAD);
        due("BAD ahead of NONE", x.silence(9, 3), BAD);
        x.sound(0, 0, 3);
        due("speech from 0", x.silence(0, 0), 6);
        x.sound(0, 19, 20);
        due("speech to the end", x.silence(1, 1), 7);
        x.sound(0, 0, 20);
        due("none", x.silence(-1, 2), 0);
        due("none", x.silence(0, 0), NONE);
        due("the longest film", laid("f100;s0,1;").silence(0, 1), 99);
        due("one tick", laid("f1;").silence(0, 1), 1);
    }

    private static void best() {
        promise = 21;
        due("none pays", laid("f30;p15,5,5,3,9;g0,30;").best(), 0);
        due("one that costs, for what needs it", laid("f30;p5,0,0,3,1;p15,0,0,3,50;g5,8;c0,1;").best(), 50 + 1 - 9);
        due("breath at the film's end", laid("f9;p0,0,0,3,5;p6,0,0,3,5;b3;").best(), 10);
        due("one tick too near", laid("f9;p0,0,0,3,5;p5,0,0,3,4;b3;").best(), 5);
        due("the shorter versions", laid("f10;p0,0,0,10,50,2,30;p4,0,0,6,25,2,20;p8,0,0,2,9;b2;").best(), 59);
        GapTellings x = new GapTellings();
        due("the first film", x.best(), 21);
        rewrite(x, "f15;p5,0,0,2,9;p13,0,0,2,7;");
        x.lay();
        due("a smaller one behind it", x.best(), 16);
        rewrite(x, "f30;p5,0,0,2,9;");
        x.lay();
        due("a longer one with fewer pictures", x.best(), 9);
        due("all seven", laid("f100;" + "p50,20,20,5,99;".repeat(7)).best(), 7 * 99 - 2 * (16 + 10 + 4) - (2 + 8 + 14 + 20));
    }

    private static void bestOf() {
        promise = 22;
        GapTellings lowest = laid("f10;p5,0,0,2,5,2,5;p5,0,0,2,5;");
        due("lowest picture", lowest.bestOf(0, 1), 5);
        due("lowest version", lowest.bestOf(0, 0), 0);
        due("not in it", lowest.bestOf(1, 0), NONE);
        due("not in it", lowest.bestOf(1, 1), NONE);
        due("BAD what", lowest.bestOf(0, 2), BAD);
        due("BAD what", lowest.bestOf(0, -1), BAD);
        due("BAD picture", lowest.bestOf(2, 0), BAD);
        due("BAD picture", lowest.bestOf(-1, 0), BAD);
        GapTellings earlier = laid("f20;p5,0,9,2,5;p4,0,9,2,5;b9;");
        due("the earlier tick", earlier.bestOf(1, 1), 4);
        due("not the lower picture", earlier.bestOf(0, 1), NONE);
        GapTellings even = laid("f20;p5,2,0,2,4;");
        due("its own tick", even.bestOf(0, 1), 5);
        even.rate(0, 0);
        due("the earliest of the same", even.bestOf(0, 1), 3);
        GapTellings nothing = laid("f10;p5,0,0,3,9;g0,10;");
        due("VALUE 0, but one begins", nothing.bestOf(0, 1), 5);
        due("VALUE 0", nothing.best(), 0);
        due("count(6)", nothing.count(6), 1);
    }

    private static void bestBy() {
        promise = 23;
        GapTellings x = laid("f30;p5,0,0,2,9;p15,0,0,2,7;p25,0,0,2,5;c0,2;");
        due("none", x.bestBy(0), 0);
        due("0", x.bestBy(1), 9);
        due("1", x.bestBy(2), 7);
        due("2 without 0", x.bestBy(4), 0);
        due("0 and 2", x.bestBy(5), 14);
        due("1 and 2", x.bestBy(6), 7);
        due("all", x.bestBy(7), 21);
        due("8", x.bestBy(8), BAD);
        due("-1", x.bestBy(-1), BAD);
        due("BEST is as it was", x.bestOf(2, 1), 25);
    }

    private static void bestIf() {
        promise = 24;
        GapTellings x = laid("f30;s5,10;g12,14;p8,0,0,2,9;p12,0,0,4,20;");
        due("as it is", x.bestIf(0, 0), 14);
        due("by 1", x.bestIf(0, 1), 14);
        due("by 2", x.bestIf(0, 2), 23);
        due("it goes", x.bestIf(0, 5), 23);
        due("too much", x.bestIf(0, 6), BAD);
        due("less than none", x.bestIf(0, -1), BAD);
        due("a song by 1", x.bestIf(1, 1), 17);
        due("a song goes", x.bestIf(1, 2), 20);
        due("BAD sound", x.bestIf(2, 0), BAD);
        due("BAD sound", x.bestIf(-1, 0), BAD);
        due("best() is as it was", x.best(), 14);
        due("tick is as it was", x.tick(9), 1);
        due("gain is as it was", x.gain(1, 0, 12), ZERO + 14);
    }

    private static void bestBreath() {
        promise = 25;
        GapTellings x = laid("f30;p5,0,0,2,9;p10,0,0,2,7;b1;");
        x.place(0, 0, 5);
        due("0", x.bestBreath(0), 16);
        due("3", x.bestBreath(3), 16);
        due("4", x.bestBreath(4), 9);
        due("9", x.bestBreath(9), 9);
        due("10", x.bestBreath(10), BAD);
        due("-1", x.bestBreath(-1), BAD);
        due("PLACED stays", x.count(3), 1);
        due("BREATH stays", x.count(4), 1);
        due("best() stays", x.best(), 16);
    }

    private static void greedy() {
        promise = 26;
        due("the worthiest in the way of more", laid("f10;p4,0,0,3,9;p1,0,0,4,8;p6,0,0,3,8;").greedy(), ZERO + 9);
        due("it may be less than BEST", laid("f10;p4,0,0,3,9;p1,0,0,4,8;p6,0,0,3,8;").best(), 16);
        due("GAIN 0 is passed over", laid("f10;p4,0,0,3,9,2,7;g0,10;").greedy(), ZERO + 1);
        due("what it would need is passed over", laid("f10;p1,0,0,1,1;p4,0,0,1,9;c0,1;n1,2;").greedy(), ZERO);
        due("nothing", laid("f10;").greedy(), ZERO);
        GapTellings x = laid("f10;p4,0,0,3,9;");
        x.place(0, 0, 4);
        due("what is placed is not looked at", x.greedy(), ZERO + 9);
        x.rate(2, 9);
        x.sound(1, 4, 5);
        due("it is told anew", x.greedy(), ZERO);
    }

    private static void greedyOf() {
        promise = 27;
        GapTellings x = laid("f30;p10,2,2,3,9,2,9;p12,5,5,3,9;p20,3,3,2,4;g20,22;");
        due("lowest version", x.greedyOf(0, 0), 0);
        due("greatest GAIN", x.greedyOf(0, 1), 10);
        due("the next one", x.greedyOf(1, 0), 0);
        due("its tick", x.greedyOf(1, 1), 14);
        due("beside the song", x.greedyOf(2, 1), 22);
        due("BAD what", x.greedyOf(0, 2), BAD);
        due("BAD what", x.greedyOf(0, -1), BAD);
        due("BAD picture", x.greedyOf(3, 0), BAD);
        due("BAD picture", x.greedyOf(-1, 0), BAD);
        GapTellings even = laid("f9;p4,0,0,1,9;p4,2,4,1,5;b1;");
        due("greatest GAIN beside another one", even.greedyOf(1, 1), 6);
        even.rate(0, 1);
        due("lowest tick of the same GAIN", even.greedyOf(1, 1), 2);
        GapTellings none = laid("f30;p10,0,0,3,9;g10,13;");
        due("NONE", none.greedyOf(0, 0), NONE);
        due("NONE", none.greedyOf(0, 1), NONE);
    }

    private static void count() {
        promise = 28;
        GapTellings x = laid("f30;s3,9;s5,11;g0,1;p12,0,5,3,9,5,8;p20,0,5,4,1;b2;");
        x.rate(0, 4);
        x.rate(1, 5);
        x.rate(2, 6);
        x.rate(3, 7);
        x.place(0, 1, 12);
        x.place(1, 0, 20);
        x.sound(1, 20, 24);
        int[] want = {30, 4, 2, 2, 2, 51, 1, 8, 9, 4, 5, 6, 7};
        for (int what = 0; what <= 12; what++) due("count " + what, x.count(what), want[what]);
        due("count 13", x.count(13), BAD);
        due("count -1", x.count(-1), BAD);
    }
}
