/** A test for each sentence with a boundary in promises 11 to 15. */
public final class EdgesOfWhatIfTest {
    private static final Check c = new Check("EdgesOfWhatIfTest");

    private static void nextBlowRange() {
        c.sentence("11: blows: 1 to 20");
        int[] bad = {0, -1, 21, Made.MIN, Made.MAX, 257};
        BeatFollower x = Made.hear(Made.with(Made.HOLD, 20), 100);
        for (int blows : bad) {
            c.due("nextBlow(" + blows + ")", x.nextBlow(blows), Made.BAD_VALUE);
        }
        c.due("nextBlow(1)", x.nextBlow(1), 800);
        c.due("nextBlow(2)", x.nextBlow(2), 1200);
        c.due("nextBlow(20)", x.nextBlow(20), 400 + 20 * 400);
        c.sentence("11: BAD_VALUE goes ahead of NONE");
        c.due("no next blow, 0", new BeatFollower().nextBlow(0), Made.BAD_VALUE);
        c.due("no next blow, 21", new BeatFollower().nextBlow(21), Made.BAD_VALUE);
        c.sentence("11: NONE if there is no next blow");
        c.due("a new one, 1", new BeatFollower().nextBlow(1), Made.NONE);
        c.due("a new one, 20", new BeatFollower().nextBlow(20), Made.NONE);
        x = Made.lay(new BeatFollower(), 100);
        Made.at(x, 99);
        c.due("ahead of the first beat", x.nextBlow(1), Made.NONE);
        c.due("behind a silence", Made.at(x, 2000).nextBlow(1), Made.NONE);
    }

    private static void nextBlowSilence() {
        c.sentence("11: NONE if there would be a silence ahead of that one");
        for (int hold = 1; hold <= 20; hold++) {
            BeatFollower x = Made.hear(Made.with(Made.HOLD, hold), 100);
            c.due("HOLD " + hold + ", as many", x.nextBlow(hold), 400 + 400 * hold);
            c.due("HOLD " + hold + ", one more", x.nextBlow(hold + 1), hold == 20 ? Made.BAD_VALUE : Made.NONE);
        }
        for (int held = 1; held <= 5; held++) {
            BeatFollower x = Made.at(Made.hear(new BeatFollower(), 100), 131 + 100 * held);
            c.due(held + " held, up to the silence", x.nextBlow(6 - held), 400 + 400 * 6);
            c.due(held + " held, behind it", x.nextBlow(7 - held), Made.NONE);
        }
        BeatFollower x = Made.at(Made.hear(Made.with(Made.HOLD, 20), 100), 331);
        x.set(Made.HOLD, 2);
        c.due("as many held as HOLD: the next one", x.nextBlow(1), 1600);
        c.due("as many held as HOLD: the one behind it", x.nextBlow(2), Made.NONE);
        x.set(Made.HOLD, 1);
        c.due("more held than HOLD: the next one", x.nextBlow(1), 1600);
        c.due("more held than HOLD: the one behind it", x.nextBlow(2), Made.NONE);
        c.sentence("11: if no more beat was heard");
        x = Made.lay(Made.hear(new BeatFollower(), 100), 110, 90, 50);
        c.due("beats to come", x.nextBlow(6), 2800);
        c.due("beats to come, behind the silence", x.nextBlow(7), Made.NONE);
    }

    /** What is forecast for a time comes true for a beat that is put there. */
    private static void comesTrue(BeatFollower x, String of, int ticks) {
        int told = x.ifHeard(ticks);
        int now = x.count(0), many = x.count(14);
        int last = many == 0 ? 0 : x.ofBeat(many - 1, 0);
        c.holds("a beat can be put", x.beat(now + ticks - last, 0) == many + 1);
        x.pass(ticks);
        c.due(of + ", " + ticks + " from now", told, x.ofBeat(many, 2));
        x.undo();
        x.undo();
    }

    private static void ifHeard() {
        c.sentence("12: ticks: how many ticks from now, 1 to 9999");
        int[] bad = {0, -1, 10000, Made.MIN, Made.MAX, 65537};
        BeatFollower x = Made.hear(new BeatFollower(), 100);
        for (int ticks : bad) {
            c.due("ifHeard(" + ticks + ")", x.ifHeard(ticks), Made.BAD_VALUE);
            c.due("a new one, ifHeard(" + ticks + ")", new BeatFollower().ifHeard(ticks), Made.BAD_VALUE);
        }
        c.due("ifHeard(1)", x.ifHeard(1), 1);
        c.due("ifHeard(9999)", x.ifHeard(9999), 3);
        c.sentence("12: Returns 1 if it would be passed over, 2 if it would be taken, 3 by A");
        // the next blows are at 100, 200, .. 600 ticks, the half window is 30, and the silence comes behind 630
        int[][] cases = {{69, 1}, {70, 2}, {100, 2}, {130, 2}, {131, 1}, {169, 1}, {170, 2}, {230, 2}, {231, 1},
            {569, 1}, {570, 2}, {630, 2}, {631, 3}, {9999, 3}};
        for (int[] k : cases) {
            c.due("ifHeard(" + k[0] + ")", x.ifHeard(k[0]), k[1]);
            comesTrue(x, "as it comes", k[0]);
        }
        c.due("a new one, 1", new BeatFollower().ifHeard(1), 3);
        c.due("a new one, 9999", new BeatFollower().ifHeard(9999), 3);
        c.sentence("12: if nothing else was heard ahead of it");
        Made.lay(x, 60, 50);
        c.due("a beat between", x.ifHeard(69), 1);
        c.due("a beat at the same time", x.ifHeard(60), 1);
        c.due("a beat that would put the silence off", x.ifHeard(631), 3);
    }

    private static void ifHeardAtTheEnds() {
        c.sentence("12: the end of a window at the same time goes ahead");
        // 100, next 200, over at 212, which is 28 ticks from now; then the next one is 300
        BeatFollower x = Made.hear(Made.with(Made.BASE, 25, Made.WINDOW, 11), 25);
        c.due("a tick ahead of the end", x.ifHeard(27), 2);
        c.due("at the end", x.ifHeard(28), 1);
        x.set(Made.HOLD, 1);
        c.due("at the end, with a silence", x.ifHeard(28), 3);
        x.set(Made.WINDOW, 12);
        c.due("a quarter ahead of the end", x.ifHeard(28), 2);
        x = Made.hear(Made.with(Made.BASE, 25, Made.WINDOW, 11), 25);
        c.due("minus the half window and 1", x.ifHeard(22), 1);
        x.set(Made.WINDOW, 12);
        c.due("minus the half window", x.ifHeard(22), 2);
        c.sentence("12: at the end of time, and behind a full plan");
        c.due("at 120000", Made.at(new BeatFollower(), 120000).ifHeard(1), 3);
        x = Made.at(Made.fullPlan(), 6400);
        c.due("behind 64 beats", x.ifHeard(100), 2);
        c.due("behind 64 beats, early", x.ifHeard(69), 1);
    }

    /** Plays the plan from the beginning on with the nudges, up to its last beat, and tells the first four answers. */
    private static int[] played(BeatFollower x, int phase, int pace) {
        x.set(Made.PHASE, phase);
        x.set(Made.PACE, pace);
        x.anew();
        int[] ends = new int[4];
        for (int beat = 0; beat < x.count(14); beat++) {
            Made.at(x, x.ofBeat(beat, 0));
            if (x.ofBeat(beat, 2) == 2) {
                ends[0] += Math.abs(x.ofBeat(beat, 4) - 100000);
            }
        }
        ends[1] = x.count(7);
        ends[2] = x.count(5);
        ends[3] = x.count(10);
        return ends;
    }

    private static void endWithRanges() {
        c.sentence("13: phase: 0 to 16, pace: 0 to 16, what: 0 to 4");
        int[] bad = {-1, 17, Made.MIN, Made.MAX};
        BeatFollower x = Made.beats(100, 105, 105, 10, 285);
        for (int value : bad) {
            c.due("phase " + value, x.endWith(value, 0, 0), Made.BAD_VALUE);
            c.due("pace " + value, x.endWith(0, value, 0), Made.BAD_VALUE);
            c.due("what " + value, x.endWith(0, 0, value), Made.BAD_VALUE);
            c.due("no beat, phase " + value, new BeatFollower().endWith(value, 0, 0), Made.BAD_VALUE);
        }
        c.due("what 5", x.endWith(0, 0, 5), Made.BAD_VALUE);
        c.due("what 4", x.endWith(0, 0, 4), 0);
        int[] strengths = {0, 1, 8, 15, 16};
        for (int phase : strengths) {
            for (int pace : strengths) {
                int[] told = new int[4];
                for (int what = 0; what < 4; what++) {
                    told[what] = x.endWith(phase, pace, what);
                }
                int[] due = played(Made.beats(100, 105, 105, 10, 285), phase, pace);
                for (int what = 0; what < 4; what++) {
                    c.due("endWith(" + phase + ", " + pace + ", " + what + ")", told[what], due[what]);
                }
            }
        }
        c.sentence("13: Tells how the whole plan would end: a plan without a beat");
        for (int what = 0; what < 5; what++) {
            c.due("what " + what, new BeatFollower().endWith(0, 16, what), 0);
        }
    }

    private static void endWithLast() {
        c.sentence("13: up to its last beat (with it, and no further)");
        // the window of the blow at 300 is over at 312 quarters, which is the time 78
        BeatFollower x = Made.lay(Made.with(Made.BASE, 25, Made.WINDOW, 11, Made.WIN, 1), 25, 25, 27);
        c.due("the last beat a tick ahead of the end of a window: held", x.endWith(8, 4, 2), 0);
        c.due("the last beat is taken", x.endWith(8, 4, 0), 8);
        c.due("the last beat is heard while LOCKED", x.endWith(8, 4, 4), 1);
        x.cut(1);
        x.beat(28, 0);
        c.due("the last beat at the end of a window: held", x.endWith(8, 4, 2), 1);
        c.due("the last beat is passed over", x.endWith(8, 4, 1), 1);
        c.due("the last beat is heard while HOLDING", x.endWith(8, 4, 4), 0);
        Made.at(x, 5000);
        c.due("no held one behind the last beat", x.endWith(8, 4, 2), 1);
        c.due("but there was one", x.count(5) > 1 ? 1 : 0, 1);
        c.sentence("13: the whole plan, from the beginning on");
        c.due("a single beat", Made.beats(100).endWith(8, 4, 2), 0);
        BeatFollower y = Made.fullPlan();
        y.cut(1);
        y.beat(107, 0);
        c.due("the 64th beat is off", y.endWith(8, 4, 0), 28);
        c.due("beats while LOCKED: all but the first four", y.endWith(8, 4, 4), 60);
        y = new BeatFollower();
        for (int i = 0; i < 10; i++) {
            y.beat(9999, 0);
        }
        y.beat(10, 0);
        c.due("up to 100000: held ones of nine silences", y.endWith(0, 0, 2), 54);
        c.due("up to 100000: the last one is passed over", y.endWith(0, 0, 1), 1);
    }

    private static void bestNudge() {
        c.sentence("14: BAD_VALUE if setting is another one");
        int[] bad = {-1, 0, 1, 4, 5, 6, 7, 8, Made.MIN, Made.MAX};
        for (int setting : bad) {
            c.due("bestNudge(" + setting + ")", Made.beats(100).bestNudge(setting), Made.BAD_VALUE);
            c.due("no beat, bestNudge(" + setting + ")", new BeatFollower().bestNudge(setting), Made.BAD_VALUE);
        }
        c.sentence("14: NONE if the plan has no beat");
        BeatFollower x = Made.beats(100);
        c.due("one beat, PHASE", x.bestNudge(Made.PHASE), 0);
        c.due("one beat, PACE", x.bestNudge(Made.PACE), 0);
        x.cut(1);
        c.due("no beat, PHASE", x.bestNudge(Made.PHASE), Made.NONE);
        c.due("no beat, PACE", x.bestNudge(Made.PACE), Made.NONE);
        c.sentence("14: Returns the strength, 0 to 16");
        x = Made.lay(Made.with(Made.PACE, 0), 100, 105, 105, 105, 105);
        c.due("the highest one of PHASE", x.bestNudge(Made.PHASE), 16);
        x.set(Made.PHASE, 16);
        c.due("the highest one of PACE", x.bestNudge(Made.PACE), 16);
        x = Made.lay(Made.with(Made.PACE, 0), 100, 100, 110, 90, 100);
        c.due("the lowest one of PHASE", x.bestNudge(Made.PHASE), 0);
        x.set(Made.PHASE, 0);
        c.due("the lowest one of PACE", x.bestNudge(Made.PACE), 0);
        x = Made.fullPlan();
        x.set(Made.PACE, 0);
        x.cut(2);
        x.beat(105, 0);
        c.due("63 beats", x.bestNudge(Made.PHASE), 0);
        x.beat(100, 0);
        c.due("the 64th counts, too", x.bestNudge(Made.PHASE), 16);
        c.sentence("14: of several the lowest one");
        c.due("all of them, PHASE", Made.beats(100, 100, 100).bestNudge(Made.PHASE), 0);
        c.due("all of them, PACE", Made.beats(100, 100, 100).bestNudge(Made.PACE), 0);
        x = Made.beats(100, 105, 105, 105, 105);
        c.due("13 and 14", x.endWith(8, 13, 0) - x.endWith(8, 14, 0), 0);
        c.due("the lower one", x.bestNudge(Made.PACE), 13);
    }

    private static void bestNudgeOrder() {
        c.sentence("14: with the fewest slips that would be told, of several with the least sum");
        BeatFollower x = Made.beats(100, 80, 120, 145, 40);
        c.due("1: slips", x.endWith(8, 1, 3), 0);
        c.due("13: slips", x.endWith(8, 13, 3), 1);
        c.holds("13 is off by less", x.endWith(8, 13, 0) < x.endWith(8, 1, 0));
        c.due("the one without a slip", x.bestNudge(Made.PACE), 1);
        for (int pace = 0; pace <= 16; pace++) {
            c.holds("none without a slip is off by less than 1, " + pace,
                x.endWith(8, pace, 3) > 0 || x.endWith(8, pace, 0) >= x.endWith(8, 1, 0));
        }
        c.sentence("14: the other one stays as it is");
        // the third beat is awaited aright if both nudges together are 16
        for (int other = 0; other <= 16; other++) {
            x = Made.lay(Made.with(Made.PHASE, other, Made.PACE, other), 100, 101, 100);
            c.due("PHASE with PACE " + other, x.bestNudge(Made.PHASE), lowestBeside(other));
            c.due("PACE with PHASE " + other, x.bestNudge(Made.PACE), lowestBeside(other));
        }
    }

    /** The lowest strength with which the third beat at 301 is awaited at 1204, behind one that was off by 4. */
    private static int lowestBeside(int other) {
        int best = 0, least = Made.MAX;
        for (int strength = 0; strength <= 16; strength++) {
            int moved = 4 * strength / 16 + 4 * other / 16;
            int off = Math.abs(1204 - (1200 + moved));
            if (off < least) {
                best = strength;
                least = off;
            }
        }
        return best;
    }

    private static void worstBeat() {
        c.sentence("15: BAD_VALUE if what is neither 0 nor 1");
        int[] bad = {-1, 2, Made.MIN, Made.MAX};
        for (int what : bad) {
            c.due("worstBeat(" + what + ")", Made.beats(100).worstBeat(what), Made.BAD_VALUE);
            c.due("no beat, worstBeat(" + what + ")", new BeatFollower().worstBeat(what), Made.BAD_VALUE);
        }
        c.sentence("15: NONE if the plan has no beat");
        BeatFollower x = Made.beats(100);
        c.due("one beat", x.worstBeat(0), 0);
        c.due("one beat, slips", x.worstBeat(1), 0);
        x.cut(1);
        c.due("no beat", x.worstBeat(0), Made.NONE);
        c.due("no beat, slips", x.worstBeat(1), Made.NONE);
        c.sentence("15: the beat without which (it would be missed) the fewest slips would be told");
        x = Made.beats(60, 180, 100, 80, 110);
        c.due("the first one", x.worstBeat(0), 0);
        c.due("the first one, slips", x.worstBeat(1), 0);
        x = Made.beats(100, 100, 100, 300);
        c.due("the last one", x.worstBeat(0), 3);
        c.due("the last one, slips", x.worstBeat(1), 0);
        x = Made.fullPlan();
        x.cut(1);
        x.beat(300, 0);
        c.due("the 64th", x.worstBeat(0), 63);
        c.due("the 64th, slips", x.worstBeat(1), 0);
        c.sentence("15: of several the first one");
        c.due("of a steady plan", Made.fullPlan().worstBeat(0), 0);
        x = Made.beats(100, 100, 50, 50, 100);
        c.due("a slip without each of them", x.worstBeat(1), 1);
        c.due("the first of these", x.worstBeat(0), 0);
        c.sentence("15: it would be missed");
        // with the true numbers as they are, a plan without its second beat has no slip
        c.due("a steady plan", Made.beats(100, 100, 100).worstBeat(1), 0);
    }

    public static void main(String[] args) {
        nextBlowRange();
        nextBlowSilence();
        ifHeard();
        ifHeardAtTheEnds();
        endWithRanges();
        endWithLast();
        bestNudge();
        bestNudgeOrder();
        worstBeat();
        c.close();
    }
}
