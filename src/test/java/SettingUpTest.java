/** Promises 1 to 6: a new object, set, beat, cut, pass, anew. */
public final class SettingUpTest {
    private static final int NO_SUCH = -1, BAD_VALUE = -2, TOO_MANY = -4, NOT_POSSIBLE = -5, NONE = -6;
    private static final int[] LOW = {20, 5, 0, 0, 0, 1, 1, 1};
    private static final int[] HIGH = {400, 50, 16, 16, 40, 8, 8, 20};
    private static final int[] FIRST = {100, 30, 8, 4, 8, 3, 3, 6};
    private static final Check c = new Check("SettingUpTest");

    private static void newObject() {
        BeatFollower x = new BeatFollower();
        int[] due = {0, 0, 400, NONE, 0, 0, 0, 0, 0, 0, 0, 0, 0, 0, 0, 0, 100, 30, 8, 4, 8, 3, 3, 6, 0, 0};
        for (int i = 0; i < due.length; i++) {
            c.due("1: count(" + i + ")", x.count(i), due[i]);
        }
        c.due("1: slips()", x.slips(), 100000);
        c.due("1: ofBeat(0, 0)", x.ofBeat(0, 0), NO_SUCH);
        c.due("1: ofBlow(0, 0)", x.ofBlow(0, 0), NO_SUCH);
        c.due("1: nextBlow(1)", x.nextBlow(1), NONE);
        c.due("1: fault()", x.fault(), 0);
        c.due("1: undo()", x.undo(), NOT_POSSIBLE);
        c.due("1: restore(0)", x.restore(0), NOT_POSSIBLE);
        c.due("1: restore(1)", x.restore(1), NOT_POSSIBLE);
        x.set(0, 77);
        x.put('b');
        x.beat(5, 5);
        BeatFollower y = new BeatFollower();
        c.due("1: another one has its own settings", y.count(16), 100);
        c.due("1: another one has its own plan", y.count(14), 0);
        c.due("1: another one has its own pad", y.count(24), 0);
        c.due("1: another one has its own history", y.count(25), 0);
    }

    private static void setRanges() {
        BeatFollower x = new BeatFollower();
        for (int s = 0; s < 8; s++) {
            c.due("2: below the range of " + s, x.set(s, LOW[s] - 1), BAD_VALUE);
            c.due("2: above the range of " + s, x.set(s, HIGH[s] + 1), BAD_VALUE);
            c.due("2: unchanged " + s, x.count(16 + s), FIRST[s]);
            c.due("2: lowest of " + s, x.set(s, LOW[s]), FIRST[s]);
            c.due("2: lowest of " + s + " is set", x.count(16 + s), LOW[s]);
            c.due("2: highest of " + s, x.set(s, HIGH[s]), LOW[s]);
            c.due("2: highest of " + s + " is set", x.count(16 + s), HIGH[s]);
            c.due("2: changes of " + s, x.count(25), Math.min(6, 2 * s + 2));
        }
        c.due("2: period of BASE 400", x.count(2), 1600);
        c.due("2: set(-1, 5)", x.set(-1, 5), BAD_VALUE);
        c.due("2: set(8, 5)", x.set(8, 5), BAD_VALUE);
        c.due("2: set(int min)", x.set(Integer.MIN_VALUE, Integer.MIN_VALUE), BAD_VALUE);
        c.due("2: set(int max)", x.set(Integer.MAX_VALUE, Integer.MAX_VALUE), BAD_VALUE);
    }

    private static void setBase() {
        BeatFollower x = new BeatFollower();
        c.due("2: set(0, 60)", x.set(0, 60), 100);
        c.due("2: period", x.count(2), 240);
        c.due("2: set(0, 100)", x.set(0, 100), 60);
        x.set(3, 16);
        x.beat(100, 0);
        x.beat(110, 0);
        c.due("2: a plan alone does not hinder", x.set(0, 100), 100);
        x.pass(100);
        int changes = x.count(25);
        c.due("2: BASE with a next blow", x.set(0, 50), NOT_POSSIBLE);
        c.due("2: BASE with a next blow, the same value", x.set(0, 100), NOT_POSSIBLE);
        c.due("2: a bad value goes ahead", x.set(0, 19), BAD_VALUE);
        c.due("2: errors are no changes", x.count(25), changes);
        c.due("2: errors leave BASE", x.count(16), 100);
        x.pass(110);
        c.due("2: nudged period", x.count(2), 440);
        c.due("2: GOOD with a next blow", x.set(4, 20), 8);
        c.due("2: GOOD leaves the period", x.count(2), 440);
        x.pass(10000);
        c.due("2: silence", x.count(15), 1);
        c.due("2: the period stays in a silence", x.count(2), 440);
        c.due("2: BASE, the same value", x.set(0, 100), 100);
        c.due("2: the period is as at first", x.count(2), 400);
        x.undo();
        c.due("2: undone", x.count(2), 440);
    }

    private static void beat() {
        BeatFollower x = new BeatFollower();
        int[][] bad = {{0, 0}, {-1, 0}, {10000, 0}, {1, -1}, {1, 100}, {0, 100},
            {Integer.MIN_VALUE, 0}, {Integer.MAX_VALUE, 0}, {1, Integer.MAX_VALUE}, {1, Integer.MIN_VALUE}};
        for (int[] b : bad) {
            c.due("3: beat(" + b[0] + ", " + b[1] + ")", x.beat(b[0], b[1]), BAD_VALUE);
        }
        c.due("3: nothing was put", x.count(14), 0);
        c.due("3: no change", x.count(25), 0);
        c.due("3: first", x.beat(1, 99), 1);
        c.due("3: second", x.beat(9999, 0), 2);
        c.due("3: third", x.beat(7, 3), 3);
        c.due("3: time of the first", x.ofBeat(0, 0), 1);
        c.due("3: number of the first", x.ofBeat(0, 1), 99);
        c.due("3: time of the second", x.ofBeat(1, 0), 10000);
        c.due("3: number of the second", x.ofBeat(1, 1), 100);
        c.due("3: time of the third", x.ofBeat(2, 0), 10007);
        c.due("3: number of the third", x.ofBeat(2, 1), 104);
        c.due("3: changes", x.count(25), 3);
    }

    private static void beatTooMany() {
        BeatFollower x = new BeatFollower();
        for (int i = 0; i < 10; i++) {
            x.beat(9999, 0);
        }
        c.due("3: above 100000", x.beat(11, 0), TOO_MANY);
        c.due("3: bad value goes ahead", x.beat(11, 100), BAD_VALUE);
        c.due("3: 100000", x.beat(10, 0), 11);
        c.due("3: behind 100000", x.beat(1, 0), TOO_MANY);
        x = new BeatFollower();
        for (int i = 0; i < 10; i++) {
            x.beat(1, 99);
        }
        c.due("3: number 999", x.ofBeat(9, 1), 999);
        c.due("3: number 1001", x.beat(1, 1), TOO_MANY);
        c.due("3: number 1000", x.beat(1, 0), 11);
        c.due("3: number 1001 again", x.beat(1, 0), TOO_MANY);
        x.pass(100);
        c.due("3: too many goes ahead of not possible", x.beat(1, 0), TOO_MANY);
        x = new BeatFollower();
        for (int i = 1; i <= 64; i++) {
            c.due("3: beat " + i, x.beat(1, 0), i);
        }
        c.due("3: the 65th", x.beat(1, 0), TOO_MANY);
        c.due("3: still 64", x.count(14), 64);
        x.pass(100);
        c.due("3: the 65th, which would be in the past, too", x.beat(1, 0), TOO_MANY);
    }

    private static void beatNotPossible() {
        BeatFollower x = new BeatFollower();
        x.pass(50);
        c.due("3: ahead of now", x.beat(49, 0), NOT_POSSIBLE);
        c.due("3: now", x.beat(50, 0), NOT_POSSIBLE);
        c.due("3: no change", x.count(25), 1);
        c.due("3: behind now", x.beat(51, 0), 1);
        x.pass(1);
        c.due("3: it is heard", x.ofBeat(0, 2), 3);
        c.due("3: behind the last one", x.beat(1, 0), 2);
    }

    private static void cut() {
        BeatFollower x = new BeatFollower();
        c.due("4: cut(0)", x.cut(0), BAD_VALUE);
        c.due("4: cut(65)", x.cut(65), BAD_VALUE);
        c.due("4: cut(int min)", x.cut(Integer.MIN_VALUE), BAD_VALUE);
        c.due("4: cut(1) of none", x.cut(1), NOT_POSSIBLE);
        c.due("4: cut(64) of none", x.cut(64), NOT_POSSIBLE);
        x.beat(100, 0);
        x.beat(100, 5);
        x.beat(100, 0);
        x.beat(100, 0);
        x.pass(100);
        c.due("4: one of four is heard", x.cut(4), NOT_POSSIBLE);
        c.due("4: no change", x.count(25), 5);
        c.due("4: cut(1)", x.cut(1), 3);
        c.due("4: cut(2)", x.cut(2), 1);
        c.due("4: changes", x.count(25), 6);
        c.due("4: the cut ones are gone", x.ofBeat(1, 0), NO_SUCH);
        c.due("4: the heard one stays", x.ofBeat(0, 2), 3);
        c.due("4: cut(1) of heard ones", x.cut(1), NOT_POSSIBLE);
        c.due("4: put again", x.beat(50, 1), 2);
        c.due("4: its time", x.ofBeat(1, 0), 150);
        c.due("4: its number", x.ofBeat(1, 1), 2);
        c.due("4: it has still to come", x.ofBeat(1, 2), 0);
        x = new BeatFollower();
        for (int i = 0; i < 64; i++) {
            x.beat(1, 0);
        }
        c.due("4: cut(64)", x.cut(64), 0);
    }

    private static void pass() {
        BeatFollower x = new BeatFollower();
        c.due("5: pass(0)", x.pass(0), BAD_VALUE);
        c.due("5: pass(-1)", x.pass(-1), BAD_VALUE);
        c.due("5: pass(10001)", x.pass(10001), BAD_VALUE);
        c.due("5: pass(int max)", x.pass(Integer.MAX_VALUE), BAD_VALUE);
        c.due("5: no change", x.count(25), 0);
        c.due("5: pass(1)", x.pass(1), 1);
        c.due("5: a change", x.count(25), 1);
        for (int i = 1; i <= 11; i++) {
            c.due("5: pass(10000)", x.pass(10000), 10000 * i + 1);
        }
        c.due("5: to 120001", x.pass(10000), TOO_MANY);
        c.due("5: bad value goes ahead", x.pass(10001), BAD_VALUE);
        c.due("5: time stays", x.count(0), 110001);
        c.due("5: to 120000", x.pass(9999), 120000);
        c.due("5: behind 120000", x.pass(1), TOO_MANY);
    }

    private static void passUpTo() {
        BeatFollower x = new BeatFollower();
        x.set(0, 25);
        x.set(1, 15);
        x.beat(25, 0);
        x.pass(24);
        c.due("5: one tick ahead of a beat", x.count(6), 0);
        x.pass(1);
        c.due("5: at the time of a beat", x.count(6), 1);
        c.due("5: the next blow", x.count(3), 200);
        x.pass(28);
        c.due("5: one tick ahead of the end of a window", x.count(5), 0);
        x.save(0);
        x.pass(1);
        c.due("5: at the end of a window (200 + 15 + 1 quarters)", x.count(5), 1);
        c.due("5: the next blow behind it", x.count(3), 300);
        x.restore(0);
        x.beat(29, 0);
        x.pass(1);
        c.due("5: the end of a window goes ahead of a beat at the same time", x.ofBeat(1, 2), 1);
        c.due("5: that beat is off by", x.ofBeat(1, 4), 100000 + 216 - 300);
    }

    private static void anew() {
        BeatFollower x = new BeatFollower();
        c.due("6: anew() of nothing", x.anew(), 0);
        c.due("6: a change", x.count(25), 1);
        x.set(0, 50);
        x.set(3, 16);
        x.set(5, 1);
        x.set(6, 1);
        x.set(7, 3);
        int[] after = {50, 55, 10, 150, 300, 45};
        for (int a : after) {
            x.beat(a, 1);
        }
        x.pass(1000);
        c.holds("6: something was counted", x.count(8) > 0 && x.count(9) > 0 && x.count(15) > 0 && x.count(7) > 0);
        c.holds("6: slips were told", x.count(10) > 0 && x.slips() != 100000);
        c.holds("6: the period was nudged", x.count(2) != 200);
        x.beat(1000, 0);
        c.due("6: anew()", x.anew(), 7);
        int[] due = {0, 0, 200, NONE, 0, 0, 0, 0, 0, 0, 0, 0, 0, 0, 7, 0, 50, 30, 8, 16, 8, 1, 1, 3, 0, 6};
        for (int i = 0; i < due.length; i++) {
            c.due("6: count(" + i + ")", x.count(i), due[i]);
        }
        c.due("6: slips()", x.slips(), 100000);
        c.due("6: no blow", x.ofBlow(0, 0), NO_SUCH);
        c.due("6: a beat's time stays", x.ofBeat(6, 0), 1610);
        c.due("6: a beat's number stays", x.ofBeat(6, 1), 12);
        for (int b = 0; b < 7; b++) {
            c.due("6: beat " + b + " has still to come", x.ofBeat(b, 2), 0);
            c.due("6: beat " + b + " has no blow", x.ofBeat(b, 3), NONE);
            c.due("6: beat " + b + " is not off", x.ofBeat(b, 4), NONE);
            c.due("6: beat " + b + " has no slip", x.ofBeat(b, 5), NONE);
        }
        x.pass(50);
        c.due("6: the first beat is heard again", x.ofBeat(0, 2), 3);
        c.due("6: with blow 0", x.ofBeat(0, 3), 0);
    }

    private static void anewOnTheWay() {
        BeatFollower x = new BeatFollower();
        x.set(5, 1);
        x.beat(100, 0);
        x.beat(100, 0);
        x.pass(200);
        c.due("6: locked", x.count(1), 1);
        c.due("6: a good one", x.count(11), 1);
        x.anew();
        c.due("6: seeking", x.count(1), 0);
        c.due("6: no good one", x.count(11), 0);
        x.undo();
        x.pass(131);
        c.due("6: holding", x.count(1), 2);
        c.due("6: a bad one", x.count(12), 1);
        c.due("6: a held one", x.count(13), 1);
        x.anew();
        c.due("6: not holding", x.count(1), 0);
        c.due("6: no bad one", x.count(12), 0);
        c.due("6: no held one", x.count(13), 0);
        c.due("6: no next blow", x.count(3), NONE);
        c.due("6: BASE can be set", x.set(0, 50), 100);
    }

    public static void main(String[] args) {
        newObject();
        setRanges();
        setBase();
        beat();
        beatTooMany();
        beatNotPossible();
        cut();
        pass();
        passUpTo();
        anew();
        anewOnTheWay();
        c.close();
    }
}
