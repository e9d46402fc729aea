/** Promises 16 to 19: put, wipe, fault, plan. */
public final class TextsTest {
    private static final int NO_SUCH = -1, BAD_VALUE = -2, BAD_TEXT = -3, TOO_MANY = -4, NOT_POSSIBLE = -5, NONE = -6;
    private static final Check c = new Check("TextsTest");

    private static void write(BeatFollower x, String text) {
        x.wipe();
        for (int i = 0; i < text.length(); i += 8) {
            int end = Math.min(text.length(), i + 8);
            c.due("put of " + text, x.put(Made.packed(text.substring(i, end))), end);
        }
    }

    private static BeatFollower written(String text) {
        BeatFollower x = new BeatFollower();
        write(x, text);
        return x;
    }

    private static void put() {
        BeatFollower x = new BeatFollower();
        long[] bad = {0, ' ', 127, 255, 0x6200, 0x620031, 0x6231L << 32, 0x6220, 0x2031, 0x627f, 0x7f31, 0xff31,
            Long.MIN_VALUE, Long.MAX_VALUE, -1, 0x0100000000000062L, 0x8000000000000062L, 0x100000062L,
            0x6200626262626262L, 0x2062626262626262L, 0x8062626262626262L};
        for (long b : bad) {
            c.due("16: put(" + b + ")", x.put(b), BAD_VALUE);
        }
        c.due("16: nothing was put", x.count(24), 0);
        c.due("16: the lowest code", x.put(33), 1);
        c.due("16: the highest code", x.put(126), 2);
        c.due("16: one", x.put('b'), 3);
        c.due("16: eight", x.put(Made.packed("12345678")), 11);
        c.due("16: two", x.put(Made.packed("!~")), 13);
        c.due("16: no change", x.count(25), 0);
        x = new BeatFollower();
        c.due("16: in their order", x.put(Made.packed("b12;e3*4")), 8);
        c.due("16: they are read", x.plan(), 5);
        c.due("16: first", x.ofBeat(0, 0), 12);
        c.due("16: last", x.ofBeat(4, 0), 24);
    }

    private static void putTooMany() {
        BeatFollower x = new BeatFollower();
        for (int i = 1; i <= 9; i++) {
            c.due("16: eight more", x.put(Made.packed("aaaaaaaa")), 8 * i);
        }
        c.due("16: seven more", x.put(Made.packed("aaaaaaa")), 79);
        c.due("16: two too many", x.put(Made.packed("aa")), TOO_MANY);
        c.due("16: bad value goes ahead", x.put(Made.packed("a a")), BAD_VALUE);
        c.due("16: nothing was put", x.count(24), 79);
        c.due("16: the 80th", x.put('a'), 80);
        c.due("16: the 81st", x.put('a'), TOO_MANY);
        c.due("16: eight too many", x.put(Made.packed("aaaaaaaa")), TOO_MANY);
        c.due("17: wipe()", x.wipe(), 80);
        c.due("17: it is empty", x.count(24), 0);
    }

    private static void wipe() {
        BeatFollower x = new BeatFollower();
        c.due("17: empty", x.wipe(), 0);
        x.put(Made.packed("b10"));
        c.due("17: wipe()", x.wipe(), 3);
        c.due("17: again", x.wipe(), 0);
        c.due("17: length", x.count(24), 0);
        c.due("17: no change", x.count(25), 0);
        x.put(Made.packed("b7"));
        c.due("17: nothing is left", x.plan(), 1);
        c.due("17: of the first text", x.ofBeat(0, 0), 7);
    }

    private static void dueFault(String text, int due) {
        BeatFollower x = written(text);
        c.due("18: fault() of " + text, x.fault(), due);
        if (due != NONE) {
            c.due("19: plan() of " + text, x.plan(), BAD_TEXT);
            c.due("19: the pad stays: " + text, x.count(24), text.length());
            c.due("19: no change: " + text, x.count(25), 0);
        }
        c.due("18: nothing changes: " + text, x.fault(), due);
    }

    private static void faultOfSigns() {
        String[] right = {"b1", "b999", "b1,999,1", "e1*2", "e999*40", "e10*39", "m1", "m99", "l1", "l9999", "b1;b1",
            "m1;m1", "l1;l1", "e1*2;e1*2", "b10;m1;l5;e7*20;b9,8", "b100", "e100*10", "m10", "l1000", "e5*19"};
        for (String text : right) {
            dueFault(text, NONE);
        }
        String[] ends = {"", "b", "e", "m", "l", "b1,", "b1;", "e1", "e1*", "b1;b", "b1,2;", "m1;", "l1;e", "e12*3;",
            "b0", "b1,0", "e0", "e1*0", "e1*1", "m0", "l0", "e", "e999"};
        for (String text : ends) {
            dueFault(text, text.length());
        }
        String[] first = {"x", "1", ";", ",", "*", "B1", "0", "~", "!b1"};
        for (String text : first) {
            dueFault(text, 0);
        }
    }

    private static void faultOfPlaces() {
        dueFault("bx", 1);
        dueFault("b,", 1);
        dueFault("b;", 1);
        dueFault("b-1", 1);
        dueFault("b1x", 2);
        dueFault("b1*2", 2);
        dueFault("b1,x", 3);
        dueFault("b1,,2", 3);
        dueFault("b1;;b2", 3);
        dueFault("b1;x", 3);
        dueFault("b1;1", 3);
        dueFault("b1b2", 2);
        dueFault("e*2", 1);
        dueFault("e1,2", 2);
        dueFault("e1;b1", 2);
        dueFault("e1**2", 3);
        dueFault("e1*x", 3);
        dueFault("e1*2*2", 4);
        dueFault("e1*2,3", 4);
        dueFault("m1,2", 2);
        dueFault("m1*2", 2);
        dueFault("l1,2", 2);
        dueFault("l1*2", 2);
        dueFault("m;", 1);
        dueFault("l;", 1);
        dueFault("b5/", 2);
        dueFault("b5:", 2);
    }

    private static void faultOfRanges() {
        dueFault("b1000", 4);
        dueFault("b9991", 4);
        dueFault("b1,1000", 6);
        dueFault("e1000*2", 4);
        dueFault("e1*41", 4);
        dueFault("e1*400", 5);
        dueFault("e1*50", 4);
        dueFault("e1*99", 4);
        dueFault("m100", 3);
        dueFault("m991", 3);
        dueFault("l10000", 5);
        dueFault("l99999", 5);
        dueFault("b0;b1", 2);
        dueFault("b0,1", 2);
        dueFault("b00", 2);
        dueFault("b01", 2);
        dueFault("b1,05", 4);
        dueFault("e0*2", 2);
        dueFault("e01*2", 2);
        dueFault("e1*1;", 4);
        dueFault("e1*1,", 4);
        dueFault("e1*0;", 4);
        dueFault("e1*02", 4);
        dueFault("m0;", 2);
        dueFault("m01", 2);
        dueFault("l0;", 2);
        dueFault("l01", 2);
        dueFault("e1*1x", 4);
    }

    private static void faultOfLongTexts() {
        String b = "b1" + ",1".repeat(39);
        dueFault(b, NONE);
        dueFault(b.substring(0, 79), 79);
        dueFault(b.substring(0, 79) + ";", 79);
        dueFault("l1;".repeat(26) + "l1", NONE);
        dueFault("m1;".repeat(26) + "m", 79);
        dueFault("e9*40;".repeat(13) + "b1", NONE);
        dueFault("b".repeat(80), 1);
        dueFault("l9999;".repeat(13) + "l1", NONE);
        dueFault("b10,20,30;e5*40;m9;l77;b1,2,3;e10*9;b4,5,6,7;e8*1", 49);
        dueFault("b10,20,30;e5*40;m9;l77;b1,2,3;e10*9;b4,5,6,7;e8*1;m1", 49);
    }

    private static void plan() {
        BeatFollower x = written("m3;b100,50;m2;m1;l30;l5;e20*3;b1;l9;m9");
        c.due("19: plan()", x.plan(), 6);
        int[] times = {100, 150, 205, 225, 245, 246};
        int[] numbers = {3, 4, 8, 9, 10, 11};
        for (int i = 0; i < 6; i++) {
            c.due("19: time of " + i, x.ofBeat(i, 0), times[i]);
            c.due("19: number of " + i, x.ofBeat(i, 1), numbers[i]);
        }
        c.due("19: no seventh", x.ofBeat(6, 0), NO_SUCH);
        c.due("19: the pad is empty", x.count(24), 0);
        c.due("19: a change", x.count(25), 1);
        c.due("19: an empty pad", x.plan(), BAD_TEXT);
        write(x, "b10");
        c.due("19: behind the plan", x.plan(), 7);
        c.due("19: what was laid behind the last beat is lost", x.ofBeat(6, 0), 256);
        c.due("19: what was missed behind the last beat is lost", x.ofBeat(6, 1), 12);
        write(x, "m5;l5");
        c.due("19: no beat", x.plan(), 7);
        c.due("19: a change all the same", x.count(25), 3);
        c.due("19: the pad is empty again", x.count(24), 0);
        x.undo();
        c.due("19: the pad stays at undo", x.count(24), 0);
        c.due("19: seven", x.undo() + x.count(14), 1 + 6);
        x.beat(4, 0);
        c.due("19: a beat behind it", x.ofBeat(6, 0), 250);
    }

    private static void planTooMany() {
        BeatFollower x = written("e10*40;e10*25");
        c.due("19: 65 beats", x.plan(), TOO_MANY);
        c.due("19: the pad stays", x.count(24), 13);
        c.due("19: no beat", x.count(14), 0);
        c.due("19: no change", x.count(25), 0);
        write(x, "e10*40;e10*24");
        c.due("19: 64 beats", x.plan(), 64);
        c.due("19: the last one", x.ofBeat(63, 0), 640);
        write(x, "b1");
        c.due("19: one more", x.plan(), TOO_MANY);
        write(x, "m1");
        c.due("19: none more", x.plan(), 64);
        x = written("e9*40;".repeat(13) + "b1");
        c.due("19: 521 beats", x.plan(), TOO_MANY);
        x = written("l9999;".repeat(10) + "b10");
        c.due("19: to 100000", x.plan(), 1);
        c.due("19: its time", x.ofBeat(0, 0), 100000);
        x = written("l9999;".repeat(10) + "b11");
        c.due("19: above 100000", x.plan(), TOO_MANY);
        x = written("l9999;".repeat(10) + "b5,5,1");
        c.due("19: the last one above 100000", x.plan(), TOO_MANY);
        c.due("19: none was put", x.count(14), 0);
        x = written("m99;".repeat(10) + "m10;b1");
        c.due("19: to number 1000", x.plan(), 1);
        c.due("19: its number", x.ofBeat(0, 1), 1000);
        x = written("m99;".repeat(10) + "m11;b1");
        c.due("19: above number 1000", x.plan(), TOO_MANY);
        x = written("m99;".repeat(10) + "m10;b1,1");
        c.due("19: the last one above number 1000", x.plan(), TOO_MANY);
    }

    private static void planNotPossible() {
        BeatFollower x = written("b50,50");
        x.pass(50);
        c.due("19: the first one now", x.plan(), NOT_POSSIBLE);
        c.due("19: the pad stays", x.count(24), 6);
        c.due("19: no change", x.count(25), 1);
        write(x, "b51");
        c.due("19: behind now", x.plan(), 1);
        x.pass(10000);
        write(x, "b1");
        c.due("19: ahead of now", x.plan(), NOT_POSSIBLE);
        write(x, "l9999;b1");
        c.due("19: laid behind now", x.plan(), 2);
        write(x, "b1;l9999;b1");
        x.pass(10);
        c.due("19: only the first one ahead of now", x.plan(), NOT_POSSIBLE);
        write(x, "e1*40;e1*40");
        c.due("19: too many goes ahead of not possible", x.plan(), TOO_MANY);
        write(x, "b1;m0");
        c.due("19: bad text goes ahead", x.plan(), BAD_TEXT);
        write(x, "l5;m5");
        c.due("19: no beat that could be ahead of now", x.plan(), 2);
        x = written("b9");
        x.pass(9);
        c.due("19: not possible", x.plan(), NOT_POSSIBLE);
        x.undo();
        c.due("19: the time went back", x.plan(), 1);
    }

    public static void main(String[] args) {
        put();
        putTooMany();
        wipe();
        faultOfSigns();
        faultOfPlaces();
        faultOfRanges();
        faultOfLongTexts();
        plan();
        planTooMany();
        planNotPossible();
        c.close();
    }
}
