/** Promises 7 to 10: ofBeat, ofBlow, count, slips. */
public final class LookingTest {
    private static final int NO_SUCH = -1, BAD_VALUE = -2, NONE = -6;
    private static final Check c = new Check("LookingTest");

    private static void dueBeat(BeatFollower x, int beat, int... due) {
        for (int what = 0; what < due.length; what++) {
            c.due("7: ofBeat(" + beat + ", " + what + ")", x.ofBeat(beat, what), due[what]);
        }
    }

    private static void dueBlow(BeatFollower x, int blow, int... due) {
        for (int what = 0; what < due.length; what++) {
            c.due("8: ofBlow(" + blow + ", " + what + ")", x.ofBlow(blow, what), due[what]);
        }
    }

    /** Beats at 100 (A), 150 (passed over), 203 (taken), 404 (taken, behind a held blow), 900 (still to come). */
    private static BeatFollower four() {
        BeatFollower x = new BeatFollower();
        x.beat(100, 3);
        x.beat(50, 0);
        x.beat(53, 1);
        x.beat(201, 0);
        x.beat(496, 0);
        x.pass(410);
        return x;
    }

    private static void ofBeat() {
        BeatFollower x = four();
        dueBeat(x, 0, 100, 3, 3, 0, NONE, 1000);
        dueBeat(x, 1, 150, 4, 1, NONE, 99800, NONE);
        dueBeat(x, 2, 203, 6, 2, 1, 100012, 1002);
        // the period is 403, the next blow 1209; it is held, and the one behind it is awaited at 1612
        dueBeat(x, 3, 404, 7, 2, 3, 100004, 999);
        dueBeat(x, 4, 900, 8, 0, NONE, NONE, NONE);
        c.due("7: ofBeat(5, 0)", x.ofBeat(5, 0), NO_SUCH);
        c.due("7: ofBeat(-1, 0)", x.ofBeat(-1, 0), NO_SUCH);
        c.due("7: ofBeat(0, -1)", x.ofBeat(0, -1), BAD_VALUE);
        c.due("7: ofBeat(0, 6)", x.ofBeat(0, 6), BAD_VALUE);
        c.due("7: of one to come, (4, 6)", x.ofBeat(4, 6), BAD_VALUE);
        c.due("7: no such goes ahead", x.ofBeat(5, 6), NO_SUCH);
        c.due("7: int min", x.ofBeat(Integer.MIN_VALUE, 0), NO_SUCH);
        c.due("7: int max", x.ofBeat(Integer.MAX_VALUE, 0), NO_SUCH);
        c.due("7: what int min", x.ofBeat(0, Integer.MIN_VALUE), BAD_VALUE);
        c.due("7: what int max", x.ofBeat(0, Integer.MAX_VALUE), BAD_VALUE);
    }

    private static void ofBeatAtTheEdge() {
        BeatFollower x = new BeatFollower();
        for (int i = 0; i < 64; i++) {
            x.beat(100, 0);
        }
        c.due("7: ofBeat(63, 0)", x.ofBeat(63, 0), 6400);
        c.due("7: ofBeat(64, 0)", x.ofBeat(64, 0), NO_SUCH);
        x.pass(10000);
        dueBeat(x, 63, 6400, 63, 2, 63, 100000, 1000);
    }

    private static void ofBlow() {
        BeatFollower x = four();
        dueBlow(x, 0, 400, 0, 400, 0);
        dueBlow(x, 1, 800, 2, 403, 0);
        dueBlow(x, 2, 1209, NONE, 403, 0);
        dueBlow(x, 3, 1612, 3, 404, 0);
        c.due("8: ofBlow(4, 0)", x.ofBlow(4, 0), NO_SUCH);
        c.due("8: ofBlow(-1, 0)", x.ofBlow(-1, 0), NO_SUCH);
        c.due("8: ofBlow(0, -1)", x.ofBlow(0, -1), BAD_VALUE);
        c.due("8: ofBlow(0, 4)", x.ofBlow(0, 4), BAD_VALUE);
        c.due("8: no such goes ahead", x.ofBlow(4, 4), NO_SUCH);
        c.due("8: int min", x.ofBlow(Integer.MIN_VALUE, 0), NO_SUCH);
        c.due("8: int max", x.ofBlow(Integer.MAX_VALUE, 0), NO_SUCH);
    }

    private static void latestBlows() {
        BeatFollower x = new BeatFollower();
        for (int i = 0; i < 64; i++) {
            x.beat(100, 0);
        }
        x.pass(6400);
        c.due("8: 64 blows", x.count(4), 64);
        dueBlow(x, 0, 400, 0, 400, 0);
        x.pass(131);
        c.due("8: 65 blows", x.count(4), 65);
        c.due("8: the oldest one is gone", x.ofBlow(0, 0), NO_SUCH);
        c.due("8: gone goes ahead of a bad value", x.ofBlow(0, 9), NO_SUCH);
        dueBlow(x, 1, 800, 1, 400, 0);
        dueBlow(x, 64, 26000, NONE, 400, 2);
        x.pass(1000);
        c.due("8: 70 blows", x.count(4), 70);
        c.due("8: ofBlow(5, 0)", x.ofBlow(5, 0), NO_SUCH);
        dueBlow(x, 6, 2800, 6, 400, 1);
        dueBlow(x, 69, 28000, NONE, 400, 0);
        c.due("8: ofBlow(70, 0)", x.ofBlow(70, 0), NO_SUCH);
    }

    private static void count() {
        BeatFollower x = four();
        int[] due = {410, 0, 404, 1612 + 2 + 404, 4, 1, 4, 1, 0, 0, 2, 1, 0, 0, 5, 0, 100, 30, 8, 4, 8, 3, 3, 6, 0, 6};
        for (int i = 0; i < due.length; i++) {
            c.due("9: count(" + i + ")", x.count(i), due[i]);
        }
        c.due("9: count(-1)", x.count(-1), BAD_VALUE);
        c.due("9: count(26)", x.count(26), BAD_VALUE);
        c.due("9: int min", x.count(Integer.MIN_VALUE), BAD_VALUE);
        c.due("9: int max", x.count(Integer.MAX_VALUE), BAD_VALUE);
        x.put('b' << 8 | '1');
        c.due("9: length of the pad", x.count(24), 2);
        x.undo();
        c.due("9: changes", x.count(25), 5);
        c.due("9: the pad stays", x.count(24), 2);
    }

    private static void countSettings() {
        BeatFollower x = new BeatFollower();
        int[] values = {200, 40, 7, 9, 11, 5, 6, 13};
        for (int s = 0; s < 8; s++) {
            x.set(s, values[s]);
        }
        for (int s = 0; s < 8; s++) {
            c.due("9: setting " + s, x.count(16 + s), values[s]);
        }
    }

    private static void slips() {
        BeatFollower x = four();
        c.due("10: 2 and -1", x.slips(), 100001);
        x.undo();
        c.due("10: undone", x.slips(), 100000);
        x = new BeatFollower();
        x.beat(100, 0);
        x.beat(400, 0);
        x.pass(500);
        c.due("10: below 0", x.slips(), 99997);
        x.beat(100, 99);
        x.pass(100);
        c.due("10: 99 more", x.slips(), 100096);
    }

    public static void main(String[] args) {
        ofBeat();
        ofBeatAtTheEdge();
        ofBlow();
        latestBlows();
        count();
        countSettings();
        slips();
        c.close();
    }
}
