/** A test for each sentence with a boundary in the texts and promises 16 to 19. */
public final class EdgesOfTextsTest {
    private static final Check c = new Check("EdgesOfTextsTest");

    private static void putCharacters() {
        c.sentence("16: characters: 1 to 8 characters");
        BeatFollower x = new BeatFollower();
        c.due("none", x.put(0), Made.BAD_VALUE);
        int length = 0;
        for (int many = 1; many <= 8; many++) {
            length += many;
            c.due(many + " characters", x.put(Made.packed("abcdefgh".substring(0, many))), length);
        }
        c.sentence("16: BAD_VALUE if a code is not 33 to 126");
        x = new BeatFollower();
        int[] bad = {1, 32, 127, 128, 255};
        for (int code : bad) {
            for (int many = 1; many <= 8; many++) {
                long all = Made.packed("aaaaaaaa".substring(0, many));
                for (int place = 0; place < many; place++) {
                    long one = (all & ~(255L << (8 * place))) | ((long) code << (8 * place));
                    c.due("code " + code + " at " + place + " of " + many, x.put(one), Made.BAD_VALUE);
                }
            }
        }
        c.due("the pad stays empty", x.count(24), 0);
        c.due("the lowest one", x.put(33), 1);
        c.due("the highest one", x.put(126), 2);
        c.due("eight of the lowest one", x.put(Made.packed("!!!!!!!!")), 10);
        c.due("eight of the highest one", x.put(Made.packed("~~~~~~~~")), 18);
        c.sentence("16: BAD_VALUE if a bit above 8 bits that are 0 is not 0");
        for (int zeros = 0; zeros < 7; zeros++) {
            long below = Made.packed("aaaaaaa".substring(0, zeros));
            for (int bit = 8 * zeros + 8; bit < 64; bit++) {
                c.due("bit " + bit + " above " + zeros, x.put(below | 1L << bit), Made.BAD_VALUE);
            }
            c.due("a character above " + zeros, x.put(below | 97L << (8 * zeros + 8)), Made.BAD_VALUE);
        }
        c.due("all bits", x.put(-1), Made.BAD_VALUE);
        c.due("the lowest number", x.put(Long.MIN_VALUE), Made.BAD_VALUE);
        c.due("the highest number", x.put(Long.MAX_VALUE), Made.BAD_VALUE);
        c.due("the pad stays", x.count(24), 18);
    }

    private static void putOrder() {
        c.sentence("16: its lowest 8 bits are the last character");
        BeatFollower x = new BeatFollower();
        x.put('b' << 16 | '1' << 8 | '2');
        x.plan();
        c.due("b12", x.ofBeat(0, 0), 12);
        x.put('b');
        x.put('3' << 8 | '4');
        x.plan();
        c.due("b, 34: appended", x.ofBeat(1, 0), 12 + 34);
        x.put(Made.packed("b1,2,3,4"));
        c.due("eight of them", x.plan(), 6);
        c.due("the last one", x.ofBeat(5, 0), 46 + 10);
    }

    private static void putTooMany() {
        c.sentence("16: TOO_MANY if the pad would be longer than 80");
        String eighty = "b1" + ",1".repeat(39);
        for (int many = 1; many <= 8; many++) {
            BeatFollower x = Made.written(eighty.substring(0, 80 - many));
            String rest = eighty.substring(80 - many);
            if (many < 8) {
                c.due(many + " and one more", x.put(Made.packed(rest + "1")), Made.TOO_MANY);
            }
            c.due("the pad stays", x.count(24), 80 - many);
            c.due(many + " up to 80", x.put(Made.packed(rest)), 80);
            c.due("the 81st", x.put('1'), Made.TOO_MANY);
            c.due("eight more", x.put(Made.packed("11111111")), Made.TOO_MANY);
            c.due("80 stay", x.count(24), 80);
            c.due("they are read", x.plan(), 40);
            c.due("the pad is empty", x.count(24), 0);
        }
        c.sentence("16: BAD_VALUE goes ahead of TOO_MANY");
        BeatFollower x = Made.written(eighty);
        c.due("none", x.put(0), Made.BAD_VALUE);
        c.due("a code 32", x.put(32), Made.BAD_VALUE);
        c.due("a code 127", x.put(127), Made.BAD_VALUE);
        c.due("a bit too high", x.put('a' << 16 | 'a'), Made.BAD_VALUE);
        c.sentence("17: Empties the pad, and returns the length that it had");
        c.due("a full one", x.wipe(), 80);
        c.due("an empty one", x.wipe(), 0);
        c.due("there is room again", x.put(Made.packed("b5")), 2);
        c.due("of the old text nothing is left", x.plan(), 1);
        c.due("but what was put", x.ofBeat(0, 0), 5);
        c.due("one of a character", Made.written("b").wipe(), 1);
        c.due("an empty one, of a new drummer", new BeatFollower().wipe(), 0);
    }

    private static void dueFault(String text, int due) {
        BeatFollower x = Made.written(text);
        c.due("fault() of " + text, x.fault(), due);
        c.holds("plan() of " + text, due == Made.NONE ? x.plan() != Made.BAD_TEXT : x.plan() == Made.BAD_TEXT);
    }

    /** A number in its range at the end of a part: its lowest and highest values, and the ones just outside. */
    private static void number(String sentence, String ahead, int lowest, int highest) {
        c.sentence("Texts: " + sentence);
        int place = ahead.length();
        int low = ("" + lowest).length(), high = ("" + highest).length();
        dueFault(ahead + lowest, Made.NONE);
        dueFault(ahead + highest, Made.NONE);
        dueFault(ahead + lowest + ";b1", Made.NONE);
        dueFault(ahead + highest + ";b1", Made.NONE);
        // above: the digit by which it is above
        dueFault(ahead + (highest + 1), place + ("" + (highest + 1)).length() - 1);
        dueFault(ahead + highest + "0", place + high);
        dueFault(ahead + highest + "9;b1", place + high);
        // below: what stands behind it, or the length
        for (int below = 0; below < lowest; below++) {
            dueFault(ahead + below, place + 1);
            dueFault(ahead + below + ";", place + 1);
            dueFault(ahead + below + ";b1", place + 1);
            dueFault(ahead + below + ",1", place + 1);
            dueFault(ahead + below + "*2", place + 1);
            dueFault(ahead + below + "x", place + 1);
        }
        dueFault(ahead + "0" + lowest, place + 1);
        dueFault(ahead + "00", place + 1);
        dueFault(ahead, place);
        dueFault(ahead + ";", place);
        dueFault(ahead + "x", place);
        dueFault(ahead + lowest + "x", place + low);
        // the signs on both sides of the digits
        dueFault(ahead + "/", place);
        dueFault(ahead + ":", place);
        dueFault(ahead + lowest + "/", place + low);
        dueFault(ahead + lowest + ":", place + low);
        dueFault(ahead + "-1", place);
        dueFault(ahead + "+1", place);
    }

    private static void numbers() {
        number("b: 1 to 999", "b", 1, 999);
        number("b: 1 to 999, a later one", "b5,", 1, 999);
        number("b: 1 to 999, a third one in a later part", "m1;b5,6,", 1, 999);
        number("e: 2 to 40 beats", "e1*", 2, 40);
        number("e: 2 to 40 beats, behind the highest number of ticks", "e999*", 2, 40);
        number("e: 2 to 40 beats, in a later part", "b1;e20*", 2, 40);
        number("m: 1 to 99", "m", 1, 99);
        number("m: 1 to 99, in a later part", "b1;m", 1, 99);
        number("l: 1 to 9999", "l", 1, 9999);
        number("l: 1 to 9999, in a later part", "e1*2;l", 1, 9999);
        c.sentence("Texts: e: 1 to 999 ticks");
        dueFault("e1*2", Made.NONE);
        dueFault("e999*2", Made.NONE);
        dueFault("e1000*2", 4);
        dueFault("e0*2", 2);
        dueFault("e0", 2);
        dueFault("e01*2", 2);
        dueFault("e1", 2);
        dueFault("e1*", 3);
        dueFault("e1;", 2);
        dueFault("e1,2", 2);
        dueFault("e*2", 1);
        dueFault("e", 1);
        c.sentence("Texts: the second number of e has to reach 2");
        dueFault("e5*10", Made.NONE);
        dueFault("e5*19", Made.NONE);
        dueFault("e5*1", 4);
        dueFault("e5*1;b1", 4);
        dueFault("e5*39", Made.NONE);
        dueFault("e5*41", 4);
        dueFault("e5*49", 4);
        dueFault("e5*50", 4);
        dueFault("e5*400", 5);
    }

    private static void faults() {
        c.sentence("18: NONE if there is none");
        dueFault("b1;e1*2;m1;l1;b1,2", Made.NONE);
        c.sentence("Texts: if there is none and the text ends too early (also if it is empty), it is its length");
        dueFault("", 0);
        String[] early = {"b", "e", "m", "l", "b1,", "b1;", "e1", "e12*", "e1*1", "m1;", "l1;", "b0", "m0", "l0", "e0"};
        for (String text : early) {
            dueFault(text, text.length());
        }
        c.sentence("Texts: the index of the first character that cannot stand at its place");
        for (char sign = 33; sign <= 126; sign++) {
            boolean starts = "beml".indexOf(sign) >= 0;
            boolean digit = sign >= '0' && sign <= '9';
            dueFault("" + sign, starts ? 1 : 0);
            dueFault("b1;" + sign, starts ? 4 : 3);
            dueFault("b" + sign, digit && sign != '0' ? Made.NONE : digit ? 2 : 1);
            dueFault("b1" + sign, digit ? Made.NONE : sign == ',' || sign == ';' ? 3 : 2);
            dueFault("m1" + sign, digit ? Made.NONE : sign == ';' ? 3 : 2);
            dueFault("l1" + sign, digit ? Made.NONE : sign == ';' ? 3 : 2);
            dueFault("e1" + sign, digit || sign == '*' ? 3 : 2);
            dueFault("e1*2" + sign, digit ? Made.NONE : sign == ';' ? 5 : 4);
            dueFault("b1," + sign, digit && sign != '0' ? Made.NONE : digit ? 4 : 3);
        }
        c.sentence("Texts: the first of several");
        dueFault("b1x;x", 2);
        dueFault("bb0", 1);
        dueFault("b1000;m0", 4);
        c.sentence("Texts: a text of at most 80 characters");
        String eighty = "b1" + ",1".repeat(39);
        dueFault(eighty, Made.NONE);
        dueFault(eighty.substring(0, 79), 79);
        dueFault(eighty.substring(0, 79) + "0", 80);
        dueFault(eighty.substring(0, 79) + "x", 79);
        dueFault(eighty.substring(0, 78) + ";m", 80);
        dueFault("m1;".repeat(26) + "b1", Made.NONE);
        dueFault("m1;".repeat(26) + "b", 79);
        dueFault("m1;".repeat(26) + "bx", 79);
        dueFault("m1;".repeat(26) + "m;", 79);
    }

    private static void dueBeats(BeatFollower x, int[][] due) {
        c.due("beats", x.count(14), due.length);
        for (int beat = 0; beat < due.length; beat++) {
            c.due("time of " + beat, x.ofBeat(beat, 0), due[beat][0]);
            c.due("number of " + beat, x.ofBeat(beat, 1), due[beat][1]);
        }
    }

    private static BeatFollower planned(String text) {
        BeatFollower x = Made.written(text);
        c.holds("plan() of " + text, x.plan() >= 0);
        return x;
    }

    private static void planned() {
        c.sentence("Texts: b: each so many ticks behind the one ahead of it (the first beat: behind the time 0)");
        dueBeats(planned("b1,999"), new int[][] {{1, 0}, {1000, 1}});
        c.sentence("Texts: e: so many beats, so many ticks behind one another");
        dueBeats(planned("e999*2"), new int[][] {{999, 0}, {1998, 1}});
        dueBeats(planned("b5;e1*3"), new int[][] {{5, 0}, {6, 1}, {7, 2}, {8, 3}});
        c.due("40 of them", planned("e1*40").ofBeat(39, 0), 40);
        c.sentence("Texts: m: the next true number is so much greater");
        dueBeats(planned("m1;b5"), new int[][] {{5, 1}});
        dueBeats(planned("m99;m99;e5*2"), new int[][] {{5, 198}, {10, 199}});
        dueBeats(planned("b5;m99;b5,5"), new int[][] {{5, 0}, {10, 100}, {15, 101}});
        c.sentence("Texts: l: as many ticks are laid between the last beat and the next one besides");
        dueBeats(planned("l9999;b1,1"), new int[][] {{10000, 0}, {10001, 1}});
        dueBeats(planned("b5;l1;l9999;e7*2"), new int[][] {{5, 0}, {10012, 1}, {10019, 2}});
        dueBeats(planned("l1;m1;l2;m2;b5"), new int[][] {{8, 3}});
        c.sentence("19: What is laid or missed behind its last beat is lost");
        BeatFollower x = planned("b5;m9;l9");
        Made.write(x, "b1");
        x.plan();
        dueBeats(x, new int[][] {{5, 0}, {6, 1}});
        x.beat(1, 0);
        dueBeats(x, new int[][] {{5, 0}, {6, 1}, {7, 2}});
        Made.write(x, "m5;l5");
        c.due("no beat at all", x.plan(), 3);
        c.due("the pad is empty", x.count(24), 0);
        Made.write(x, "b1");
        x.plan();
        c.due("it is lost, too: time", x.ofBeat(3, 0), 8);
        c.due("it is lost, too: number", x.ofBeat(3, 1), 3);
    }

    private static void planErrors() {
        c.sentence("19: BAD_TEXT if the pad has a fault");
        BeatFollower x = Made.beats(10);
        c.due("an empty pad", x.plan(), Made.BAD_TEXT);
        Made.write(x, "b10,20;");
        c.due("a fault at its end", x.plan(), Made.BAD_TEXT);
        c.due("no beat of it is put", x.count(14), 1);
        c.due("the pad stays", x.count(24), 7);
        x.put('m');
        x.put('1');
        c.due("without a fault", x.plan(), 3);
        c.sentence("19: TOO_MANY if it applies to some of these beats: 64");
        x = Made.written("e1*40;e1*24");
        c.due("64", x.plan(), 64);
        Made.write(x, "b1");
        c.due("the 65th", x.plan(), Made.TOO_MANY);
        c.due("the pad stays", x.count(24), 2);
        c.due("64 stay", x.count(14), 64);
        x.cut(1);
        c.due("the 64th again", x.plan(), 64);
        x = Made.beats(1);
        Made.write(x, "e1*40;e1*24");
        c.due("65", x.plan(), Made.TOO_MANY);
        Made.write(x, "e1*40;e1*23");
        c.due("64 with the one ahead", x.plan(), 64);
        c.sentence("19: TOO_MANY if it applies to some of these beats: 100000");
        String far = "l9999;".repeat(10);
        c.due("100000", Made.written(far + "b10").plan(), 1);
        c.due("100001", Made.written(far + "b11").plan(), Made.TOO_MANY);
        c.due("100000, and one more", Made.written(far + "b10,1").plan(), Made.TOO_MANY);
        c.due("of ten the last one", Made.written(far + "b1;e1*9").plan(), 10);
        c.due("of eleven the last one is above", Made.written(far + "b1;e1*10").plan(), Made.TOO_MANY);
        c.due("far above", Made.written("l9999;".repeat(13) + "b1").plan(), Made.TOO_MANY);
        c.due("laid behind the last beat, it counts for none", Made.written("b1;" + far + "l99").plan(), 1);
        c.sentence("19: TOO_MANY if it applies to some of these beats: 1000");
        String many = "m99;".repeat(10);
        c.due("1000", Made.written(many + "m10;b1").plan(), 1);
        c.due("1001", Made.written(many + "m11;b1").plan(), Made.TOO_MANY);
        c.due("1000, and one more", Made.written(many + "m10;b1,1").plan(), Made.TOO_MANY);
        c.due("missed behind the last beat, it counts for none", Made.written("b1;" + many + "m99").plan(), 1);
    }

    private static void planNotPossible() {
        c.sentence("19: NOT_POSSIBLE if it applies to some of them");
        BeatFollower x = Made.at(new BeatFollower(), 50);
        String[] early = {"b1", "b49", "b50", "b50,1", "b1,999", "e50*2", "e25*40", "l49;b1", "m5;b50"};
        for (String text : early) {
            Made.write(x, text);
            c.due("at 50: " + text, x.plan(), Made.NOT_POSSIBLE);
            c.due("the pad stays: " + text, x.count(24), text.length());
        }
        c.due("no beat was put", x.count(14), 0);
        c.due("no change", x.count(25), 1);
        Made.write(x, "b51");
        c.due("at 50: b51", x.plan(), 1);
        Made.at(x, 60);
        Made.write(x, "b9");
        c.due("at 60: behind 51, now", x.plan(), Made.NOT_POSSIBLE);
        Made.write(x, "l9;b1");
        c.due("at 60: behind 51, one above", x.plan(), 2);
        c.sentence("19: BAD_TEXT goes ahead of TOO_MANY and of NOT_POSSIBLE");
        Made.write(x, "e1*40;e1*40;");
        c.due("80 beats and a fault", x.plan(), Made.BAD_TEXT);
        x.pass(100);
        Made.write(x, "b1;");
        c.due("at 160, 62 and a fault", x.plan(), Made.BAD_TEXT);
        c.sentence("19: TOO_MANY goes ahead of NOT_POSSIBLE");
        Made.write(x, "e1*40;e1*23");
        c.due("at 160, 65 beats from 62 on", x.plan(), Made.TOO_MANY);
        Made.write(x, "e1*40;e1*22");
        c.due("at 160, 64 beats from 62 on", x.plan(), Made.NOT_POSSIBLE);
        Made.write(x, "m5");
        c.due("at 160, no beat", x.plan(), 2);
    }

    public static void main(String[] args) {
        putCharacters();
        putOrder();
        putTooMany();
        numbers();
        faults();
        planned();
        planErrors();
        planNotPossible();
        c.close();
    }
}
