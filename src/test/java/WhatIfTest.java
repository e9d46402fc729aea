/** Promises 11 to 15: nextBlow, ifHeard, endWith, bestNudge, worstBeat. */
public final class WhatIfTest {
    private static final int BAD_VALUE = -2, NONE = -6;
    private static final int WINDOW = 1, PHASE = 2, PACE = 3, WIN = 5, LOSE = 6, HOLD = 7;
    private static final int MIN = Integer.MIN_VALUE, MAX = Integer.MAX_VALUE;
    private static final Check c = new Check("WhatIfTest");

    /** Beats at 100 (A), 125 and 150 (passed over), 200 (taken), 350 (held ahead of it, taken), 400, with missed ones. */
    private static BeatFollower wavering() {
        BeatFollower x = new BeatFollower();
        x.set(0, 50);
        x.set(WINDOW, 50);
        x.beat(50, 0);
        x.beat(25, 0);
        x.beat(25, 0);
        x.beat(50, 0);
        x.beat(150, 0);
        x.beat(50, 2);
        return x;
    }

    private static int[] all(BeatFollower x) {
        int[] all = new int[26 + 36 + 16 + 1];
        int k = 0;
        for (int i = 0; i < 26; i++) {
            all[k++] = x.count(i);
        }
        for (int i = 0; i < 36; i++) {
            all[k++] = x.ofBeat(i / 6, i % 6);
        }
        for (int i = 0; i < 16; i++) {
            all[k++] = x.ofBlow(i / 4, i % 4);
        }
        all[k] = x.slips();
        return all;
    }

    private static void nextBlow() {
        BeatFollower x = Made.beats(100, 105);
        int[] bad = {0, -1, 21, MIN, MAX};
        for (int b : bad) {
            c.due("11: nextBlow(" + b + ")", x.nextBlow(b), BAD_VALUE);
        }
        c.due("11: no next blow", x.nextBlow(1), NONE);
        c.due("11: no next blow, 20", x.nextBlow(20), NONE);
        x.pass(205);
        // off by 20: the period is 405, the next blow 800 + 10 + 405
        c.due("11: the next one", x.nextBlow(1), 1215);
        c.due("11: the second", x.nextBlow(2), 1620);
        c.due("11: the sixth", x.nextBlow(6), 1215 + 5 * 405);
        c.due("11: a silence ahead of the seventh", x.nextBlow(7), NONE);
        x.set(HOLD, 20);
        c.due("11: the twentieth", x.nextBlow(20), 1215 + 19 * 405);
        x.set(HOLD, 19);
        c.due("11: a silence ahead of the twentieth", x.nextBlow(20), NONE);
        c.due("11: the nineteenth", x.nextBlow(19), 1215 + 18 * 405);
        x.set(HOLD, 1);
        c.due("11: HOLD 1, the next one", x.nextBlow(1), 1215);
        c.due("11: HOLD 1, the second", x.nextBlow(2), NONE);
        x.set(HOLD, 6);
        x.pass(140);
        c.due("11: one held", x.nextBlow(1), 1620);
        c.due("11: the fifth behind one held", x.nextBlow(5), 1620 + 4 * 405);
        c.due("11: the sixth behind one held", x.nextBlow(6), NONE);
        x.set(HOLD, 1);
        c.due("11: as many held as HOLD, the next one", x.nextBlow(1), 1620);
        c.due("11: as many held as HOLD, the second", x.nextBlow(2), NONE);
        x.set(HOLD, 6);
        x.beat(1, 0);
        x.beat(1000, 0);
        c.due("11: beats to come do not count", x.nextBlow(5), 1620 + 4 * 405);
        x.pass(10000);
        c.due("11: behind a silence", x.nextBlow(1), NONE);
        c.due("11: bad value goes ahead", x.nextBlow(0), BAD_VALUE);
    }

    private static void ifHeard() {
        BeatFollower x = Made.beats(100);
        int[] bad = {0, -1, 10000, MIN, MAX};
        for (int b : bad) {
            c.due("12: ifHeard(" + b + ")", x.ifHeard(b), BAD_VALUE);
        }
        c.due("12: no next blow", x.ifHeard(1), 3);
        c.due("12: beats to come do not count", x.ifHeard(9999), 3);
        x.pass(100);
        c.due("12: -124", x.ifHeard(69), 1);
        c.due("12: -120", x.ifHeard(70), 2);
        c.due("12: 120", x.ifHeard(130), 2);
        c.due("12: the window is over", x.ifHeard(131), 1);
        c.due("12: of the second blow, -120", x.ifHeard(170), 2);
        c.due("12: of the sixth blow, 120", x.ifHeard(630), 2);
        c.due("12: a silence behind the sixth blow", x.ifHeard(631), 3);
        x.set(HOLD, 20);
        c.due("12: of the 20th blow, 120", x.ifHeard(2030), 2);
        c.due("12: a silence behind the 20th blow", x.ifHeard(2031), 3);
        c.due("12: long behind it", x.ifHeard(9999), 3);
        x.set(HOLD, 2);
        x.pass(131);
        c.due("12: one held", x.ifHeard(99), 2);
        c.due("12: silence behind the second one", x.ifHeard(100), 3);
        x.set(HOLD, 6);
        x.beat(150, 0);
        c.due("12: a beat ahead of it does not count", x.ifHeard(69), 2);
        x = Made.beats(100, 100);
        x.pass(100);
        c.due("12: one that would keep the drummer from a silence does not count", x.ifHeard(631), 3);
        x = Made.beats(100);
        x.pass(100);
        x.set(WINDOW, 50);
        x.pass(140);
        x.set(WINDOW, 5);
        c.due("12: a window that was over already", x.ifHeard(1), 1);
        x = new BeatFollower();
        for (int i = 0; i < 64; i++) {
            x.beat(100, 0);
        }
        x.pass(6400);
        c.due("12: behind a full plan", x.ifHeard(100), 2);
    }

    private static void endWithErrors() {
        BeatFollower x = Made.beats(100, 100);
        int[][] bad = {{-1, 0, 0}, {17, 0, 0}, {0, -1, 0}, {0, 17, 0}, {0, 0, -1}, {0, 0, 5},
            {MIN, 0, 0}, {MAX, 0, 0}, {0, MIN, 0}, {0, MAX, 0}, {0, 0, MIN}, {0, 0, MAX}};
        for (int[] b : bad) {
            c.due("13: endWith(" + b[0] + ", " + b[1] + ", " + b[2] + ")", x.endWith(b[0], b[1], b[2]), BAD_VALUE);
        }
        x = new BeatFollower();
        for (int what = 0; what <= 4; what++) {
            c.due("13: no beat, " + what, x.endWith(16, 16, what), 0);
        }
        c.due("13: no beat, 5", x.endWith(16, 16, 5), BAD_VALUE);
    }

    private static void endWith() {
        BeatFollower x = Made.beats(100, 105, 105, 10, 285);
        // with no nudge the blows are awaited at 800, 1200, 1600 .. : off by 20, 40, -320, 20 behind two held ones
        c.due("13: off, no nudge", x.endWith(0, 0, 0), 20 + 40 + 20);
        c.due("13: passed over, no nudge", x.endWith(0, 0, 1), 1);
        c.due("13: held, no nudge", x.endWith(0, 0, 2), 2);
        c.due("13: slips, no nudge", x.endWith(0, 0, 3), 1);
        c.due("13: heard while locked, no nudge", x.endWith(0, 0, 4), 0);
        // the whole nudge of the blow: 800, 1220, 1640, two held, 2440
        c.due("13: off, whole nudge of the blow", x.endWith(16, 0, 0), 20 + 20 + 20);
        c.due("13: the whole nudges", x.endWith(16, 16, 0), 20 + 0 + 80);
        x.pass(300);
        c.due("13: from the beginning on", x.endWith(0, 0, 0), 80);
        c.due("13: nothing else is different", x.count(6), 2);
        x = wavering();
        c.due("13: the same settings but for the nudges", x.endWith(8, 4, 0), 257);
        c.due("13: told slips", x.endWith(0, 0, 3), 3);
        c.due("13: held ones", x.endWith(16, 16, 2), 7);
        x = Made.beats(100, 100, 100, 100, 100, 231, 100);
        c.due("13: two beats while locked: the sixth one comes while holding", x.endWith(8, 4, 4), 1);
        x.set(WIN, 1);
        c.due("13: more while locked", x.endWith(8, 4, 4), 3);
        x = Made.beats(100, 100, 150);
        c.due("13: the window ends with the last beat's time ahead of it", x.endWith(0, 0, 2), 1);
        x = Made.beats(100);
        x.set(HOLD, 1);
        c.due("13: no further than the last beat", x.endWith(0, 0, 2), 0);
    }

    private static void nothingChanges() {
        BeatFollower x = wavering();
        x.pass(120);
        int[] ahead = all(x);
        for (int i = 0; i <= 16; i += 4) {
            x.endWith(i, 16 - i, i / 4);
            x.nextBlow(i);
            x.ifHeard(100 * i);
        }
        x.bestNudge(PHASE);
        x.bestNudge(PACE);
        x.worstBeat(0);
        x.worstBeat(1);
        int[] behind = all(x);
        for (int i = 0; i < ahead.length; i++) {
            c.due("11 to 15: nothing changes, " + i, behind[i], ahead[i]);
        }
    }

    private static void bestNudge() {
        BeatFollower x = new BeatFollower();
        int[] bad = {0, 1, 4, 5, 6, 7, 8, -1, MIN, MAX};
        for (int b : bad) {
            c.due("14: bestNudge(" + b + ")", x.bestNudge(b), BAD_VALUE);
        }
        c.due("14: no beat, PHASE", x.bestNudge(PHASE), NONE);
        c.due("14: no beat, PACE", x.bestNudge(PACE), NONE);
        x.beat(100, 0);
        c.due("14: one beat: the lowest one", x.bestNudge(PHASE), 0);
        c.due("14: one beat: the lowest one of PACE", x.bestNudge(PACE), 0);
        // a new tempo: 13 and 14 both leave 41 quarters
        x = Made.beats(100, 105, 105, 105, 105);
        c.due("14: PACE of a new tempo, the lower one of two", x.bestNudge(PACE), 13);
        c.due("14: what 13 leaves", x.endWith(8, 13, 0), 41);
        c.due("14: what 14 leaves", x.endWith(8, 14, 0), 41);
        x.set(PACE, 0);
        c.due("14: PHASE of a new tempo", x.bestNudge(PHASE), 16);
        x.set(PHASE, 16);
        c.due("14: PACE of a new tempo with PHASE 16", x.bestNudge(PACE), 16);
        // one beat that wavers, and the others steady: no nudge is best
        x = Made.beats(100, 100, 110, 90, 100);
        x.set(PACE, 0);
        c.due("14: PHASE of a single late beat", x.bestNudge(PHASE), 0);
        x = wavering();
        c.due("14: fewest slips, PHASE", x.bestNudge(PHASE), 13);
        c.due("14: fewest slips, PACE", x.bestNudge(PACE), 12);
        x.pass(400);
        c.due("14: from the beginning on", x.bestNudge(PHASE), 13);
    }

    private static void fewestSlipsGoAhead() {
        BeatFollower x = Made.beats(100, 80, 120, 145, 40);
        c.due("14: PACE 1 is off by more", x.endWith(8, 1, 0), 156);
        c.due("14: PACE 13 is off by less", x.endWith(8, 13, 0), 95);
        c.due("14: but PACE 13 slips", x.endWith(8, 13, 3), 1);
        c.due("14: and PACE 1 does not", x.endWith(8, 1, 3), 0);
        c.due("14: fewest slips go ahead, PACE", x.bestNudge(PACE), 1);
        x = Made.beats(100, 80, 80, 45, 155);
        c.due("14: fewest slips go ahead, PHASE", x.bestNudge(PHASE), 16);
        x.set(PHASE, 0);
        c.due("14: the one asked for does not count", x.bestNudge(PHASE), 16);
    }

    private static void worstBeat() {
        BeatFollower x = new BeatFollower();
        int[] bad = {-1, 2, MIN, MAX};
        for (int b : bad) {
            c.due("15: worstBeat(" + b + ")", x.worstBeat(b), BAD_VALUE);
        }
        c.due("15: no beat, 0", x.worstBeat(0), NONE);
        c.due("15: no beat, 1", x.worstBeat(1), NONE);
        x.beat(100, 0);
        c.due("15: one beat", x.worstBeat(0), 0);
        c.due("15: one beat, no slip", x.worstBeat(1), 0);
        // one beat too many, at 250: without it its true number is missed, and the slip stays
        x = Made.beats(100, 100, 50, 50, 100);
        c.due("15: the first of several", x.worstBeat(0), 0);
        c.due("15: a slip all the same", x.worstBeat(1), 1);
        // the last beat comes half a period late: it alone makes the slip
        x = Made.beats(100, 100, 100, 300);
        c.due("15: the last one", x.worstBeat(0), 3);
        c.due("15: no slip without it", x.worstBeat(1), 0);
        x = wavering();
        c.due("15: the worst one", x.worstBeat(0), 4);
        c.due("15: one slip", x.worstBeat(1), 1);
        x.pass(100);
        c.due("15: from the beginning on", x.worstBeat(0), 4);
        // 64 beats, the last one of which is too late
        x = new BeatFollower();
        for (int i = 0; i < 63; i++) {
            x.beat(100, 0);
        }
        x.beat(300, 0);
        c.due("15: the 64th", x.worstBeat(0), 63);
        c.due("15: no slip without the 64th", x.worstBeat(1), 0);
    }

    public static void main(String[] args) {
        nextBlow();
        ifHeard();
        endWithErrors();
        endWith();
        nothingChanges();
        bestNudge();
        fewestSlipsGoAhead();
        worstBeat();
        c.close();
    }
}
