/** A test for each sentence with a boundary in the settings, the beats, and promises 1 to 6. */
public final class EdgesOfSettingUpTest {
    private static final Check c = new Check("EdgesOfSettingUpTest");

    private static void newObject() {
        c.sentence("1: Creates a drummer without a plan, at the time 0");
        BeatFollower x = new BeatFollower();
        c.due("time", x.count(0), 0);
        c.due("beats", x.count(14), 0);
        c.due("ofBeat(0, 0)", x.ofBeat(0, 0), Made.NO_SUCH);
        c.sentence("The drummer: SEEKING at first, the period 4 * BASE at first, no next blow at first, 0 at first");
        c.due("state", x.count(1), Made.SEEKING);
        c.due("period", x.count(2), 400);
        c.due("next blow", x.count(3), Made.NONE);
        c.due("good ones in a row", x.count(11), 0);
        c.due("bad ones in a row", x.count(12), 0);
        c.due("held ones in a row", x.count(13), 0);
        c.sentence("The drummer: Blows are numbered from 0, as they are struck");
        Made.hear(x, 100, 100);
        c.due("the first one", x.ofBeat(0, 3), 0);
        c.due("the second one", x.ofBeat(1, 3), 1);
    }

    private static void setting(String sentence, int setting, int lowest, int highest, int first) {
        c.sentence("Settings: " + sentence);
        BeatFollower x = new BeatFollower();
        int[] outside = {lowest - 1, highest + 1, Made.MIN, Made.MAX, lowest + 65536};
        c.due("first value", x.count(16 + setting), first);
        for (int value : outside) {
            c.due("set " + value, x.set(setting, value), Made.BAD_VALUE);
        }
        c.due("set " + lowest, x.set(setting, lowest), first);
        c.due("is " + lowest, x.count(16 + setting), lowest);
        c.due("below the lowest one", x.set(setting, lowest - 1), Made.BAD_VALUE);
        c.due("is still " + lowest, x.count(16 + setting), lowest);
        c.due("set " + highest, x.set(setting, highest), lowest);
        c.due("is " + highest, x.count(16 + setting), highest);
        c.due("above the highest one", x.set(setting, highest + 1), Made.BAD_VALUE);
        c.due("is still " + highest, x.count(16 + setting), highest);
        c.due("set " + first, x.set(setting, first), highest);
    }

    private static void settings() {
        setting("BASE (20 to 400; 100)", Made.BASE, 20, 400, 100);
        setting("WINDOW (5 to 50; 30)", Made.WINDOW, 5, 50, 30);
        setting("PHASE (0 to 16; 8)", Made.PHASE, 0, 16, 8);
        setting("PACE (0 to 16; 4)", Made.PACE, 0, 16, 4);
        setting("GOOD (0 to 40; 8)", Made.GOOD, 0, 40, 8);
        setting("WIN (1 to 8; 3)", Made.WIN, 1, 8, 3);
        setting("LOSE (1 to 8; 3)", Made.LOSE, 1, 8, 3);
        setting("HOLD (1 to 20; 6)", Made.HOLD, 1, 20, 6);
    }

    private static void setPeriod() {
        c.sentence("2: if it is BASE, the period is 4 * BASE then");
        BeatFollower x = Made.with(Made.BASE, 20);
        c.due("of 20", x.count(2), 80);
        x.set(Made.BASE, 400);
        c.due("of 400", x.count(2), 1600);
        x = Made.at(Made.hear(new BeatFollower(), 100, 110), 5000);
        c.due("nudged, in a silence", x.count(2), 410);
        c.due("BASE as it is", x.set(Made.BASE, 100), 100);
        c.due("not nudged any more", x.count(2), 400);
        c.sentence("2: otherwise it stays as it is");
        x = Made.hear(new BeatFollower(), 100, 110);
        int[][] values = {{1, 5}, {1, 50}, {2, 0}, {2, 16}, {3, 0}, {3, 16}, {4, 0}, {4, 40}, {5, 1}, {5, 8}, {6, 1},
            {6, 8}, {7, 1}, {7, 20}};
        for (int[] v : values) {
            c.holds("set(" + v[0] + ", " + v[1] + ")", x.set(v[0], v[1]) >= 0);
            c.due("period behind set(" + v[0] + ", " + v[1] + ")", x.count(2), 410);
            c.due("next blow behind set(" + v[0] + ", " + v[1] + ")", x.count(3), 1230);
        }
    }

    private static void setErrors() {
        c.sentence("2: BAD_VALUE if there is no such setting");
        int[] none = {-1, 8, 9, 16, Made.MIN, Made.MAX, 256};
        BeatFollower x = new BeatFollower();
        for (int setting : none) {
            c.due("set(" + setting + ", 8)", x.set(setting, 8), Made.BAD_VALUE);
            c.due("set(" + setting + ", 30)", x.set(setting, 30), Made.BAD_VALUE);
        }
        c.due("the last one there is", x.set(7, 8), 6);
        c.sentence("2: NOT_POSSIBLE if it is BASE, and there is a next blow");
        x = Made.lay(Made.with(Made.HOLD, 1), 100);
        Made.at(x, 99);
        c.due("ahead of the first blow", x.set(Made.BASE, 100), 100);
        x.pass(1);
        c.due("with the first blow", x.set(Made.BASE, 50), Made.NOT_POSSIBLE);
        c.due("the same value", x.set(Made.BASE, 100), Made.NOT_POSSIBLE);
        Made.at(x, 230);
        c.due("the window is not over", x.set(Made.BASE, 50), Made.NOT_POSSIBLE);
        x.pass(1);
        c.due("a silence", x.set(Made.BASE, 50), 100);
        Made.hear(x, 400);
        c.due("with another blow", x.set(Made.BASE, 60), Made.NOT_POSSIBLE);
        x.anew();
        c.due("anew", x.set(Made.BASE, 60), 50);
        c.sentence("2: BAD_VALUE goes ahead of NOT_POSSIBLE");
        x = Made.hear(new BeatFollower(), 100);
        c.due("19", x.set(Made.BASE, 19), Made.BAD_VALUE);
        c.due("401", x.set(Made.BASE, 401), Made.BAD_VALUE);
        c.due("20", x.set(Made.BASE, 20), Made.NOT_POSSIBLE);
        c.due("400", x.set(Made.BASE, 400), Made.NOT_POSSIBLE);
    }

    private static void beatRanges() {
        c.sentence("3: after: 1 to 9999");
        int[] bad = {0, -1, 10000, Made.MIN, Made.MAX, 65537};
        BeatFollower x = new BeatFollower();
        for (int after : bad) {
            c.due("beat(" + after + ", 0)", x.beat(after, 0), Made.BAD_VALUE);
        }
        c.due("the lowest, for the first beat", x.beat(1, 0), 1);
        c.due("its time", x.ofBeat(0, 0), 1);
        c.due("the highest", x.beat(9999, 0), 2);
        c.due("its time", x.ofBeat(1, 0), 10000);
        c.due("the lowest", x.beat(1, 0), 3);
        c.due("its time", x.ofBeat(2, 0), 10001);
        c.due("the highest, for the first beat", Made.beats(9999).ofBeat(0, 0), 9999);
        c.sentence("3: missed: 0 to 99");
        int[] badMissed = {-1, 100, Made.MIN, Made.MAX, 256};
        for (int missed : badMissed) {
            c.due("beat(1, " + missed + ")", x.beat(1, missed), Made.BAD_VALUE);
        }
        c.sentence("3: that of the first one is so much itself");
        c.due("no missed one", x.ofBeat(0, 1), 0);
        BeatFollower y = new BeatFollower();
        c.due("99 missed ones", y.beat(1, 99), 1);
        c.due("its number", y.ofBeat(0, 1), 99);
        c.sentence("3: its true number is that of the one ahead of it and 1 and so much");
        y.beat(1, 0);
        c.due("no missed one", y.ofBeat(1, 1), 100);
        y.beat(1, 99);
        c.due("99 missed ones", y.ofBeat(2, 1), 200);
        c.sentence("3: behind the time 0, if it is the first one");
        y = Made.at(new BeatFollower(), 50);
        c.due("beat(60, 0) at 50", y.beat(60, 0), 1);
        c.due("its time", y.ofBeat(0, 0), 60);
        c.sentence("3: BAD_VALUE if an argument is out of range");
        c.due("both", y.beat(0, 100), Made.BAD_VALUE);
        c.due("no beat is put", y.count(14), 1);
    }

    private static void beatTooMany() {
        c.sentence("3: TOO_MANY if it has 64");
        BeatFollower x = new BeatFollower();
        for (int i = 1; i <= 64; i++) {
            c.due("beat " + i, x.beat(1, 0), i);
        }
        c.due("the 65th", x.beat(1, 0), Made.TOO_MANY);
        x.cut(1);
        c.due("the 64th, behind a cut", x.beat(1, 0), 64);
        c.sentence("3: TOO_MANY if its time would be above 100000");
        x = Made.beats(9999, 9999, 9999, 9999, 9999, 9999, 9999, 9999, 9999, 9999);
        c.due("100001", x.beat(11, 0), Made.TOO_MANY);
        c.due("109989", x.beat(9999, 0), Made.TOO_MANY);
        c.due("100000", x.beat(10, 0), 11);
        c.due("its time", x.ofBeat(10, 0), 100000);
        c.due("100001 behind it", x.beat(1, 0), Made.TOO_MANY);
        c.sentence("3: TOO_MANY if the true number would be above 1000");
        x = new BeatFollower();
        for (int i = 0; i < 10; i++) {
            x.beat(1, 99);
        }
        c.due("1001", x.beat(1, 1), Made.TOO_MANY);
        c.due("1099", x.beat(1, 99), Made.TOO_MANY);
        c.due("1000", x.beat(1, 0), 11);
        c.due("its number", x.ofBeat(10, 1), 1000);
        c.due("1001 behind it", x.beat(1, 0), Made.TOO_MANY);
    }

    private static void beatNotPossible() {
        c.sentence("3: NOT_POSSIBLE if its time would not be above the time of now");
        BeatFollower x = Made.at(new BeatFollower(), 50);
        c.due("1", x.beat(1, 0), Made.NOT_POSSIBLE);
        c.due("one below", x.beat(49, 0), Made.NOT_POSSIBLE);
        c.due("now", x.beat(50, 0), Made.NOT_POSSIBLE);
        c.due("one above", x.beat(51, 0), 1);
        x = Made.at(Made.beats(100), 150);
        c.due("behind a beat, now", x.beat(50, 0), Made.NOT_POSSIBLE);
        c.due("behind a beat, one above", x.beat(51, 0), 2);
        c.due("its time", x.ofBeat(1, 0), 151);
    }

    private static void beatOrder() {
        c.sentence("3: BAD_VALUE goes ahead of TOO_MANY");
        BeatFollower x = Made.fullPlan();
        c.due("a full plan, 0", x.beat(0, 0), Made.BAD_VALUE);
        c.due("a full plan, 100 missed ones", x.beat(1, 100), Made.BAD_VALUE);
        c.sentence("3: TOO_MANY goes ahead of NOT_POSSIBLE");
        Made.at(x, 7000);
        c.due("a full plan, 6500 at 7000", x.beat(100, 0), Made.TOO_MANY);
        x = new BeatFollower();
        for (int i = 0; i < 10; i++) {
            x.beat(1, 99);
        }
        Made.at(x, 50);
        c.due("number 1001, 11 at 50", x.beat(1, 1), Made.TOO_MANY);
        c.due("number 1000, 11 at 50", x.beat(1, 0), Made.NOT_POSSIBLE);
        x = Made.beats(9999, 9999, 9999, 9999, 9999, 9999, 9999, 9999, 9999, 9999);
        Made.at(x, 100001);
        c.due("100001 at 100001", x.beat(11, 0), Made.TOO_MANY);
        c.due("100000 at 100001", x.beat(10, 0), Made.NOT_POSSIBLE);
        c.sentence("3: BAD_VALUE goes ahead of NOT_POSSIBLE");
        c.due("0", x.beat(0, 0), Made.BAD_VALUE);
        c.due("-1 missed ones", x.beat(10, -1), Made.BAD_VALUE);
    }

    private static void cut() {
        c.sentence("4: many: 1 to 64");
        int[] bad = {0, -1, 65, Made.MIN, Made.MAX, 257};
        BeatFollower x = Made.fullPlan();
        for (int many : bad) {
            c.due("cut(" + many + ")", x.cut(many), Made.BAD_VALUE);
        }
        c.due("cut(1)", x.cut(1), 63);
        c.due("cut(64) of 63", x.cut(64), Made.NOT_POSSIBLE);
        x.beat(100, 0);
        c.due("cut(64)", x.cut(64), 0);
        c.due("cut(1) of none", x.cut(1), Made.NOT_POSSIBLE);
        c.due("cut(64) of none", x.cut(64), Made.NOT_POSSIBLE);
        c.due("BAD_VALUE goes ahead", x.cut(65), Made.BAD_VALUE);
        c.sentence("4: NOT_POSSIBLE if so many beats of the plan have not still to come");
        x = Made.at(Made.beats(100, 20, 80, 100, 100), 299);
        c.due("three heard, one of them passed over", x.count(7), 1);
        c.due("cut(3) of two to come", x.cut(3), Made.NOT_POSSIBLE);
        c.due("cut(2) of two to come", x.cut(2), 3);
        c.due("cut(1) of heard ones", x.cut(1), Made.NOT_POSSIBLE);
        x = Made.at(Made.beats(100, 100), 200);
        c.due("a beat at the time of now is heard", x.cut(1), Made.NOT_POSSIBLE);
        x.anew();
        c.due("cut(3) behind anew()", x.cut(3), Made.NOT_POSSIBLE);
        c.due("cut(2) behind anew()", x.cut(2), 0);
        c.sentence("4: takes beats from the end of the plan");
        x = Made.beats(10, 20, 30);
        x.cut(2);
        c.due("the first one stays", x.ofBeat(0, 0), 10);
        c.due("the second one is gone", x.ofBeat(1, 0), Made.NO_SUCH);
        x.beat(5, 3);
        c.due("a new one is behind the first one", x.ofBeat(1, 0), 15);
        c.due("its number", x.ofBeat(1, 1), 4);
        x.cut(2);
        x.beat(5, 3);
        c.due("behind the time 0 again", x.ofBeat(0, 0), 5);
        c.due("its number is so much itself", x.ofBeat(0, 1), 3);
    }

    private static void pass() {
        c.sentence("5: ticks: 1 to 10000");
        int[] bad = {0, -1, 10001, Made.MIN, Made.MAX, 65537};
        BeatFollower x = new BeatFollower();
        for (int ticks : bad) {
            c.due("pass(" + ticks + ")", x.pass(ticks), Made.BAD_VALUE);
        }
        c.due("pass(1)", x.pass(1), 1);
        c.due("pass(10000)", x.pass(10000), 10001);
        c.sentence("5: TOO_MANY if the time would be above 120000");
        Made.at(x, 110001);
        c.due("120001", x.pass(10000), Made.TOO_MANY);
        c.due("120000", x.pass(9999), 120000);
        c.due("120001 at 120000", x.pass(1), Made.TOO_MANY);
        c.due("130000", x.pass(10000), Made.TOO_MANY);
        c.due("the time stays", x.count(0), 120000);
        c.sentence("5: BAD_VALUE goes ahead of TOO_MANY");
        c.due("0 at 120000", x.pass(0), Made.BAD_VALUE);
        c.due("10001 at 120000", x.pass(10001), Made.BAD_VALUE);
        x.anew();
        c.due("from the time 0 again", x.pass(10000), 10000);
    }

    private static void passWithIt() {
        c.sentence("5: all that happens up to a time (with it) happens");
        BeatFollower x = Made.beats(100, 100);
        Made.at(x, 99);
        c.due("one ahead of a beat", x.count(6), 0);
        x.pass(1);
        c.due("at a beat", x.count(6), 1);
        Made.at(x, 199);
        c.due("one ahead of the second beat", x.count(6), 1);
        x.pass(1);
        c.due("at the second beat", x.count(6), 2);
        // the half windows are 8, 9, 10, 11 and 12: the windows are over at 209 to 213 quarters
        int[][] windows = {{8, 53}, {9, 53}, {10, 53}, {11, 53}, {12, 54}};
        for (int[] w : windows) {
            x = Made.hear(Made.with(Made.BASE, 25, Made.WINDOW, w[0]), 25);
            Made.at(x, w[1] - 1);
            c.due("ahead of the end of a window of " + w[0], x.count(5), 0);
            x.pass(1);
            c.due("at the end of a window of " + w[0], x.count(5), 1);
        }
        x = Made.beats(1, 9999);
        x.pass(10000);
        c.due("the last tick of 10000", x.count(6), 2);
        x = new BeatFollower();
        for (int i = 0; i < 10; i++) {
            x.beat(9999, 0);
        }
        x.beat(10, 0);
        Made.at(x, 99999);
        c.due("one ahead of the last time of a plan", x.count(6), 10);
        x.pass(1);
        c.due("at the last time of a plan", x.count(6), 11);
    }

    private static void anew() {
        c.sentence("6: the plan stays, and none of its beats was heard");
        c.due("an empty plan", new BeatFollower().anew(), 0);
        BeatFollower x = Made.fullPlan();
        Made.at(x, 6531);
        c.due("65 blows", x.count(4), 65);
        c.due("a full plan", x.anew(), 64);
        int[] beats = {0, 63};
        for (int beat : beats) {
            c.due("time of " + beat, x.ofBeat(beat, 0), 100 * beat + 100);
            c.due("number of " + beat, x.ofBeat(beat, 1), beat);
            c.due("fate of " + beat, x.ofBeat(beat, 2), 0);
            c.due("blow of " + beat, x.ofBeat(beat, 3), Made.NONE);
            c.due("off of " + beat, x.ofBeat(beat, 4), Made.NONE);
            c.due("slip of " + beat, x.ofBeat(beat, 5), Made.NONE);
        }
        c.due("heard", x.count(6), 0);
        c.sentence("6: no blow was struck");
        c.due("blows", x.count(4), 0);
        c.due("the first one", x.ofBlow(0, 0), Made.NO_SUCH);
        c.due("one of the latest", x.ofBlow(64, 0), Made.NO_SUCH);
        c.sentence("6: the drummer is as at first (with the settings as they are)");
        x = Made.with(Made.BASE, 50, Made.PACE, 16, Made.WIN, 1);
        Made.hear(x, 50, 52);
        c.due("ahead of it: period", x.count(2), 208);
        c.due("ahead of it: state", x.count(1), Made.LOCKED);
        x.anew();
        c.due("period", x.count(2), 200);
        c.due("state", x.count(1), Made.SEEKING);
        c.due("next blow", x.count(3), Made.NONE);
        c.due("BASE", x.count(16), 50);
        c.due("PACE", x.count(19), 16);
        c.due("time", x.count(0), 0);
        c.sentence("6: the time is 0");
        c.due("a beat is put behind now", x.beat(1, 0), 3);
        c.due("beats that were heard may be cut", x.cut(3), 0);
        c.due("a beat at 1 is behind now", x.beat(1, 0), 1);
    }

    public static void main(String[] args) {
        newObject();
        settings();
        setPeriod();
        setErrors();
        beatRanges();
        beatTooMany();
        beatNotPossible();
        beatOrder();
        cut();
        pass();
        passWithIt();
        anew();
        c.close();
    }
}
