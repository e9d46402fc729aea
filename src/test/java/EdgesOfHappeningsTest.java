/** A test for each sentence with a boundary in the drummer, what happens, the slips, and promises 7 to 10. */
public final class EdgesOfHappeningsTest {
    private static final Check c = new Check("EdgesOfHappeningsTest");

    /** A drummer whose period is 100 quarters, with a blow at 100 and the next one awaited at 200. */
    private static BeatFollower small(int... settings) {
        BeatFollower x = Made.with(Made.BASE, 25);
        for (int i = 0; i < settings.length; i += 2) {
            x.set(settings[i], settings[i + 1]);
        }
        return Made.hear(x, 25);
    }

    private static void divisions() {
        c.sentence("All divisions are rounded down, also of numbers below 0");
        int[][] cases = {{0, 0, 0}, {1, 0, -1}, {3, 0, -1}, {4, 1, -1}, {5, 1, -2}, {15, 3, -4}, {16, 4, -4}};
        for (int[] k : cases) {
            c.due("4 * " + k[0] + " / 16", Made.hear(Made.with(Made.PACE, k[0]), 100, 101).count(2), 400 + k[1]);
            c.due("-4 * " + k[0] + " / 16", Made.hear(Made.with(Made.PACE, k[0]), 100, 99).count(2), 400 + k[2]);
            c.due("the blow, 4 * " + k[0] + " / 16",
                Made.hear(Made.with(Made.PHASE, k[0], Made.PACE, 0), 100, 101).count(3), 1200 + k[1]);
            c.due("the blow, -4 * " + k[0] + " / 16",
                Made.hear(Made.with(Made.PHASE, k[0], Made.PACE, 0), 100, 99).count(3), 1200 + k[2]);
        }
    }

    private static void halfWindow() {
        c.sentence("The half window is period * WINDOW / 100, in quarters, with the period as it is then");
        // 33 ticks: 132 * 30 / 100 is 39, so that a beat that is 40 early is not in it
        BeatFollower x = Made.hear(Made.with(Made.BASE, 33), 100, 23);
        c.due("40 early, 39.6", x.ofBeat(1, 2), 1);
        x = Made.hear(Made.with(Made.BASE, 34), 100, 24);
        c.due("40 early, 40.8", x.ofBeat(1, 2), 2);
        // the period grows from 400 to 480, the next blow is at 800 + 40 + 480: the half window from 120 to 144
        x = Made.hear(Made.with(Made.PACE, 16), 100, 120, 74);
        c.due("144 early", x.ofBeat(2, 4), 100000 - 144);
        c.due("144 early is taken", x.ofBeat(2, 2), 2);
        x = Made.hear(Made.with(Made.PACE, 16), 100, 120, 73);
        c.due("148 early is passed over", x.ofBeat(2, 2), 1);
        x = small(Made.WINDOW, 5);
        Made.hear(x, 24);
        c.due("the narrowest window, 4 early", x.ofBeat(1, 2), 2);
        x = small(Made.WINDOW, 5);
        Made.hear(x, 23);
        c.due("the narrowest window, 8 early", x.ofBeat(1, 2), 1);
        x = small(Made.WINDOW, 50);
        Made.hear(x, 13);
        c.due("the widest window, 48 early", x.ofBeat(1, 2), 2);
        x = small(Made.WINDOW, 50);
        Made.hear(x, 12);
        c.due("the widest window, 52 early", x.ofBeat(1, 2), 1);
    }

    private static void windowIsOver() {
        c.sentence("The window of the next blow is over at its time and the half window and 1");
        // over at 200 + 11 + 1, which is the time 53, and at 200 + 12 + 1
        BeatFollower x = Made.at(small(Made.WINDOW, 11), 52);
        c.due("at 208 of 212", x.count(5), 0);
        x.pass(1);
        c.due("at 212 of 212", x.count(5), 1);
        x = Made.at(small(Made.WINDOW, 12), 53);
        c.due("at 212 of 213", x.count(5), 0);
        x.pass(1);
        c.due("at 216 of 213", x.count(5), 1);
        c.sentence("the end of a window goes ahead of a beat at the same time");
        x = Made.hear(small(Made.WINDOW, 11), 28);
        c.due("the blow is held", x.ofBlow(1, 1), Made.NONE);
        c.due("the beat is early for the one behind it", x.ofBeat(1, 4), 100000 + 212 - 300);
        c.due("and passed over", x.ofBeat(1, 2), 1);
        x = Made.hear(small(Made.WINDOW, 12), 28);
        c.due("a quarter ahead of the end", x.ofBeat(1, 2), 2);
        c.due("it is off by as much as it can be", x.ofBeat(1, 4), 100012);
        x = Made.hear(small(Made.WINDOW, 11, Made.HOLD, 1), 28);
        c.due("a silence goes ahead of a beat at the same time", x.ofBeat(1, 2), 3);
        c.due("its blow", x.ofBeat(1, 3), 2);
    }

    private static void passedOver() {
        c.sentence("B.1: If e is below minus the half window, it is passed over");
        int[][] cases = {{11, 22, 1}, {12, 22, 2}, {13, 22, 2}, {15, 21, 1}, {16, 21, 2}, {17, 21, 2}};
        for (int[] k : cases) {
            BeatFollower x = Made.hear(small(Made.WINDOW, k[0]), k[1]);
            c.due("off " + (4 * k[1] - 100) + ", half window " + k[0], x.ofBeat(1, 2), k[2]);
        }
        c.sentence("B.1: It is bad");
        BeatFollower x = Made.hear(small(), 10);
        c.due("bad ones in a row", x.count(12), 1);
        c.due("the next blow is not struck", x.count(3), 200);
        c.due("blows", x.count(4), 1);
        x = Made.hear(small(), 1);
        c.due("the earliest one", x.ofBeat(1, 4), 100000 - 96);
    }

    private static void bounds() {
        c.sentence("B.2: 2 * BASE at least");
        BeatFollower x = Made.hear(small(Made.WINDOW, 50, Made.PHASE, 0, Made.PACE, 16), 13);
        c.due("100 - 48", x.count(2), 52);
        c.due("next blow", x.count(3), 252);
        x.set(Made.PACE, 2);
        Made.hear(x, 21);
        c.due("off by", x.ofBeat(2, 4), 100000 - 16);
        c.due("52 - 2 is the least", x.count(2), 50);
        c.due("next blow with it", x.count(3), 252 + 50);
        x.undo();
        x.set(Made.PACE, 3);
        Made.at(x, 59);
        c.due("52 - 3 is below it", x.count(2), 50);
        x.undo();
        x.undo();
        x.set(Made.PACE, 1);
        Made.at(x, 59);
        c.due("52 - 1 is above it", x.count(2), 51);
        x.set(Made.PACE, 16);
        Made.hear(x, 11);
        c.due("far below it", x.count(2), 50);
        c.sentence("B.2: 8 * BASE at most");
        x = Made.hear(small(Made.WINDOW, 50, Made.PHASE, 0, Made.PACE, 16), 37, 37);
        c.due("off by 48", x.ofBeat(2, 4), 100048);
        c.due("100 + 48 + 48", x.count(2), 196);
        Made.hear(x, 38);
        c.due("196 + 4 is the most", x.count(2), 200);
        c.due("next blow with it", x.count(3), x.ofBlow(3, 0) + 200);
        x.undo();
        x.undo();
        Made.hear(x, 39);
        c.due("196 + 8 is above it", x.count(2), 200);
        c.due("next blow with the most", x.count(3), x.ofBlow(3, 0) + 200);
        x.undo();
        x.undo();
        x.set(Made.PACE, 12);
        Made.hear(x, 38);
        c.due("196 + 3 is below it", x.count(2), 199);
    }

    private static void boundsOfTheEnds() {
        c.sentence("B.2: 2 * BASE at least, with the lowest BASE");
        BeatFollower x = Made.hear(Made.with(Made.BASE, 20, Made.WINDOW, 50, Made.PHASE, 0, Made.PACE, 16), 20, 10);
        c.due("80 - 40", x.count(2), 40);
        Made.hear(x, 15);
        c.due("off by -20", x.ofBeat(2, 4), 100000 - 20);
        c.due("40 - 20", x.count(2), 40);
        c.due("next blow", x.count(3), 240);
        c.sentence("B.2: 8 * BASE at most, with the highest BASE");
        x = Made.hear(Made.with(Made.BASE, 400, Made.WINDOW, 50, Made.PHASE, 0, Made.PACE, 16), 400, 600, 600);
        c.due("1600 + 800 + 800", x.count(2), 3200);
        c.due("next blow", x.count(3), 5600 + 3200);
        Made.hear(x, 1000);
        c.due("off by as much as any beat can be", x.ofBeat(3, 4), 101600);
        c.due("3200 + 1600", x.count(2), 3200);
        c.due("next blow behind it", x.count(3), 8800 + 3200);
        x.undo();
        x.undo();
        Made.hear(x, 1001);
        c.due("a tick behind it the window is over", x.count(5), 1);
        c.due("and the beat is early for the blow behind it", x.ofBeat(3, 4), 100000 - 1596);
        x.undo();
        x.undo();
        Made.hear(x, 200);
        c.due("as early as any beat can be", x.ofBeat(3, 4), 100000 - 1600);
        c.due("it is taken", x.ofBeat(3, 2), 2);
        x.undo();
        x.undo();
        Made.hear(x, 199);
        c.due("earlier", x.ofBeat(3, 2), 1);
        c.due("it is off by", x.ofBeat(3, 4), 100000 - 1604);
    }

    private static void good() {
        c.sentence("B.2: It is good if the size of e is at most (the period ahead of this) * GOOD / 100");
        int[][] cases = {{7, 8, 0}, {8, 8, 1}, {9, 8, 1}, {7, -8, 0}, {8, -8, 1}, {0, 0, 1}, {0, 4, 0}, {0, -4, 0},
            {3, 4, 0}, {4, 4, 1}, {40, 40, 1}, {40, -40, 1}, {40, 44, 0}, {40, -44, 0}, {39, 40, 0}, {39, -40, 0}};
        for (int[] k : cases) {
            BeatFollower x = Made.hear(small(Made.WINDOW, 50, Made.GOOD, k[0]), 25 + k[1] / 4);
            c.due("GOOD " + k[0] + ", off " + k[1] + ", good ones", x.count(11), k[2]);
            c.due("GOOD " + k[0] + ", off " + k[1] + ", bad ones", x.count(12), 1 - k[2]);
        }
        BeatFollower y = Made.hear(Made.with(Made.BASE, 24, Made.PACE, 16), 25, 26);
        c.due("off by 8, the period grows from 96 to 104", y.count(12), 1);
        y = Made.hear(Made.with(Made.BASE, 25, Made.PACE, 16), 25, 23);
        c.due("off by -8, the period shrinks from 100 to 92", y.count(11), 1);
        c.due("rounded down: 96 * 8 / 100", Made.hear(Made.with(Made.BASE, 24), 25, 26).count(12), 1);
        int[][] wide = {{1, 1}, {160, 1}, {161, 0}, {-160, 1}, {-161, 0}};
        for (int[] w : wide) {
            BeatFollower x = Made.with(Made.BASE, 400, Made.WINDOW, 50, Made.GOOD, 40);
            c.due("1600 * 40 / 100, off " + 4 * w[0], Made.hear(x, 400, 400 + w[0]).count(11), w[1]);
        }
        c.sentence("B.2: Held blows in a row are 0");
        BeatFollower x = Made.hear(small(), 50);
        c.due("behind one held", x.count(5), 1);
        c.due("in a row", x.count(13), 0);
    }

    private static void held() {
        c.sentence("C: A drummer who is LOCKED is HOLDING then");
        BeatFollower x = Made.hear(Made.with(Made.WIN, 1), 100, 100);
        Made.at(x, 330);
        c.due("the window is not over", x.count(1), Made.LOCKED);
        x.pass(1);
        c.due("it is over", x.count(1), Made.HOLDING);
        c.due("no lock is lost", x.count(9), 0);
        x.pass(100);
        c.due("a second held one", x.count(1), Made.HOLDING);
        c.due("who is SEEKING stays so", Made.at(Made.hear(new BeatFollower(), 100), 231).count(1), Made.SEEKING);
        c.sentence("C: The next blow is at (the time of the blow, as it was awaited) + period");
        c.due("next blow", x.count(3), 800 + 4 * 400 - 400);
        c.sentence("C: Held blows in a row are one more. It is bad");
        c.due("held ones", x.count(13), 2);
        c.due("bad ones", x.count(12), 2);
        c.due("good ones", x.count(11), 0);
    }

    private static void lockWon() {
        c.sentence("if there are WIN good beats in a row or more, the lock is won");
        for (int win = 1; win <= 8; win++) {
            BeatFollower x = Made.hear(Made.with(Made.WIN, win), 100);
            for (int i = 1; i <= win; i++) {
                c.due("WIN " + win + ", good ones ahead", x.count(11), i - 1);
                c.due("WIN " + win + ", not yet", x.count(1), Made.SEEKING);
                Made.hear(x, 100);
            }
            c.due("WIN " + win, x.count(1), Made.LOCKED);
            c.due("WIN " + win + ", won", x.count(8), 1);
            c.due("WIN " + win + ", good ones stay", x.count(11), win);
            Made.hear(x, 100);
            c.due("WIN " + win + ", won once", x.count(8), 1);
        }
        c.sentence("if there are WIN good beats in a row or more: more");
        BeatFollower x = Made.hear(Made.with(Made.WIN, 8), 100, 100, 100, 100);
        x.set(Made.WIN, 1);
        c.due("nothing happens by set()", x.count(1), Made.SEEKING);
        Made.hear(x, 100);
        c.due("the fourth one with WIN 1", x.count(1), Made.LOCKED);
        c.sentence("if the drummer is not LOCKED, the lock is won: HOLDING");
        x = Made.hear(Made.with(Made.WIN, 1, Made.LOSE, 8), 100, 100, 200);
        c.due("locked again", x.count(1), Made.LOCKED);
        c.due("won twice", x.count(8), 2);
        c.sentence("and this happened by B.2, the lock is won");
        x = Made.hear(Made.with(Made.WIN, 8), 100, 100, 100, 100);
        x.set(Made.WIN, 3);
        Made.hear(x, 10);
        c.due("passed over behind three good ones", x.count(1), Made.SEEKING);
        c.due("good ones in a row", x.count(11), 0);
    }

    private static void lockLost() {
        c.sentence("if there are LOSE bad ones in a row or more, the lock is lost");
        for (int lose = 1; lose <= 8; lose++) {
            BeatFollower x = Made.hear(Made.with(Made.WIN, 1, Made.LOSE, lose), 100, 100);
            for (int i = 1; i <= lose; i++) {
                c.due("LOSE " + lose + ", bad ones ahead", x.count(12), i - 1);
                c.due("LOSE " + lose + ", not yet", x.count(1), Made.LOCKED);
                Made.hear(x, 1);
            }
            c.due("LOSE " + lose, x.count(1), Made.SEEKING);
            c.due("LOSE " + lose + ", lost", x.count(9), 1);
            c.due("LOSE " + lose + ", good ones are 0", x.count(11), 0);
            c.due("LOSE " + lose + ", bad ones are 0", x.count(12), 0);
            Made.hear(x, 1);
            c.due("LOSE " + lose + ", bad ones while seeking", x.count(12), 1);
        }
        c.sentence("if there are LOSE bad ones in a row or more: more");
        BeatFollower x = Made.hear(Made.with(Made.WIN, 1, Made.LOSE, 8), 100, 100, 1, 1, 1);
        x.set(Made.LOSE, 1);
        c.due("nothing happens by set()", x.count(1), Made.LOCKED);
        Made.hear(x, 1);
        c.due("the fourth one with LOSE 1", x.count(1), Made.SEEKING);
        c.sentence("if the drummer is not SEEKING, the lock is lost");
        x = Made.hear(Made.with(Made.LOSE, 1), 100, 1, 1, 1);
        c.due("who is seeking loses nothing", x.count(9), 0);
        c.due("and counts on", x.count(12), 3);
        x = Made.hear(Made.with(Made.WIN, 1, Made.LOSE, 2), 100, 100);
        Made.at(x, 331);
        c.due("one held", x.count(1), Made.HOLDING);
        x.pass(100);
        c.due("who is HOLDING loses it", x.count(1), Made.SEEKING);
        c.due("lost", x.count(9), 1);
        x = Made.hear(Made.with(Made.WIN, 1, Made.LOSE, 1), 100, 100);
        Made.at(x, 331);
        c.due("LOSE 1: seeking behind the first held one", x.count(1), Made.SEEKING);
        c.due("held ones in a row are not 0", x.count(13), 1);
    }

    private static void silence() {
        c.sentence("behind C, if there are HOLD held blows in a row or more, there is a silence");
        int[] holds = {1, 2, 6, 19, 20};
        for (int hold : holds) {
            BeatFollower x = Made.hear(Made.with(Made.HOLD, hold, Made.LOSE, 8), 100);
            Made.at(x, 100 * hold + 130);
            c.due("HOLD " + hold + ", held ones ahead", x.count(13), hold - 1);
            c.due("HOLD " + hold + ", not yet", x.count(15), 0);
            c.due("HOLD " + hold + ", next blow", x.count(3), 400 * hold + 400);
            x.pass(1);
            c.due("HOLD " + hold, x.count(15), 1);
            c.due("HOLD " + hold + ", no next blow", x.count(3), Made.NONE);
            c.due("HOLD " + hold + ", held ones in a row", x.count(13), 0);
            c.due("HOLD " + hold + ", bad ones", x.count(12), 0);
            c.due("HOLD " + hold + ", held ones", x.count(5), hold);
            c.due("HOLD " + hold + ", no lock was lost", x.count(9), 0);
        }
        c.sentence("if there are HOLD held blows in a row or more: more, and only behind C");
        BeatFollower x = Made.at(Made.hear(Made.with(Made.HOLD, 20), 100), 431);
        c.due("three held", x.count(13), 3);
        x.set(Made.HOLD, 1);
        c.due("nothing happens by set()", x.count(15), 0);
        Made.hear(x, 340);
        c.due("a beat that is passed over", x.ofBeat(1, 2), 1);
        c.due("makes no silence", x.count(15), 0);
        x.pass(91);
        c.due("the fourth held one does", x.count(15), 1);
        c.sentence("if the drummer is not SEEKING, the lock is lost; the drummer is SEEKING");
        x = Made.at(Made.hear(Made.with(Made.WIN, 1, Made.HOLD, 1), 100, 100), 331);
        c.due("lost", x.count(9), 1);
        c.due("state", x.count(1), Made.SEEKING);
        c.due("state behind the blow", x.ofBlow(2, 3), Made.SEEKING);
        c.due("silences", x.count(15), 1);
        x = Made.at(Made.hear(Made.with(Made.WIN, 1, Made.HOLD, 1, Made.LOSE, 1), 100, 100), 331);
        c.due("lost once only", x.count(9), 1);
    }

    private static void slips() {
        c.sentence("A slip that is not 0 is told: above 0 the drummer struck too few blows");
        int[][] cases = {{100, 0, 0}, {100, 1, 1}, {100, 99, 99}, {200, 0, -1}, {200, 1, 0}, {300, 0, -2}, {200, 2, 1},
            {600, 0, -5}, {600, 99, 94}};
        for (int[] k : cases) {
            BeatFollower x = Made.hear(new BeatFollower(), 100);
            x.beat(k[0], k[1]);
            x.pass(k[0]);
            String of = "one " + k[0] + " behind, " + k[1] + " missed: ";
            c.due(of + "slip", x.ofBeat(1, 5), 1000 + k[2]);
            c.due(of + "told", x.count(10), k[2] == 0 ? 0 : 1);
            c.due(of + "sum", x.slips(), 100000 + k[2]);
        }
        c.sentence("that of a beat of A is 0");
        BeatFollower x = new BeatFollower();
        x.beat(100, 99);
        x.beat(1000, 99);
        x.pass(1100);
        c.due("the first beat", x.ofBeat(0, 5), 1000);
        c.due("behind a silence", x.ofBeat(1, 5), 1000);
        c.due("told", x.count(10), 0);
        c.sentence("that of the beat ahead of it that was taken or with which a blow was struck");
        x.beat(20, 3);
        x.beat(80, 0);
        x.pass(100);
        c.due("one between that was passed over", x.ofBeat(2, 2), 1);
        c.due("counts for the next one", x.ofBeat(3, 5), 1004);
        c.sentence("10: 100000 and the sum of all slips so far");
        c.due("4", x.slips(), 100004);
        x = Made.hear(new BeatFollower(), 100, 600, 600, 600);
        c.due("three times -5", x.slips(), 99985);
        x.beat(100, 15);
        x.pass(100);
        c.due("and 15", x.slips(), 100000);
        c.due("told all the same", x.count(10), 4);
    }

    private static void ofBeat() {
        c.sentence("7: NO_SUCH if the plan has no such beat");
        int[] none = {-1, 4, 64, Made.MIN, Made.MAX};
        BeatFollower x = Made.at(Made.beats(100, 20, 80, 300), 210);
        for (int beat : none) {
            for (int what = 0; what < 6; what++) {
                c.due("ofBeat(" + beat + ", " + what + ")", x.ofBeat(beat, what), Made.NO_SUCH);
            }
        }
        c.sentence("7: BAD_VALUE if what is out of range");
        int[] bad = {-1, 6, Made.MIN, Made.MAX};
        for (int what : bad) {
            c.due("ofBeat(0, " + what + ")", x.ofBeat(0, what), Made.BAD_VALUE);
            c.due("of one to come, " + what, x.ofBeat(3, what), Made.BAD_VALUE);
            c.due("NO_SUCH goes ahead, " + what, x.ofBeat(4, what), Made.NO_SUCH);
        }
        c.due("an empty plan", new BeatFollower().ofBeat(0, 0), Made.NO_SUCH);
        c.sentence("7: NONE if it has none; NONE if it has still to come, or by A; NONE if it has no blow");
        int[][] due = {{100, 0, 3, 0, Made.NONE, 1000}, {120, 1, 1, Made.NONE, 100000 - 320, Made.NONE},
            {200, 2, 2, 1, 100000, 1001}, {500, 3, 0, Made.NONE, Made.NONE, Made.NONE}};
        for (int i = 0; i < 24; i++) {
            c.due("ofBeat(" + i / 6 + ", " + i % 6 + ")", x.ofBeat(i / 6, i % 6), due[i / 6][i % 6]);
        }
        x = Made.fullPlan();
        c.due("the 64th", x.ofBeat(63, 1), 63);
        c.due("the 65th", x.ofBeat(64, 1), Made.NO_SUCH);
        x.cut(1);
        c.due("the 64th behind a cut", x.ofBeat(63, 1), Made.NO_SUCH);
    }

    private static void ofBlow() {
        c.sentence("8: NO_SUCH if no such blow is among the latest 64");
        BeatFollower x = Made.fullPlan();
        c.due("none was struck", x.ofBlow(0, 0), Made.NO_SUCH);
        x.pass(6300);
        c.due("63: the oldest one", x.ofBlow(0, 0), 400);
        c.due("63: the latest one", x.ofBlow(62, 0), 25200);
        c.due("63: the next one", x.ofBlow(63, 0), Made.NO_SUCH);
        x.pass(100);
        c.due("64: the oldest one", x.ofBlow(0, 0), 400);
        c.due("64: the one ahead of it", x.ofBlow(-1, 0), Made.NO_SUCH);
        c.due("64: the latest one", x.ofBlow(63, 0), 25600);
        c.due("64: the next one", x.ofBlow(64, 0), Made.NO_SUCH);
        x.pass(131);
        c.due("65: the one ahead of the oldest one", x.ofBlow(0, 0), Made.NO_SUCH);
        int[] oldest = {800, 1, 400, Made.SEEKING};
        for (int what = 0; what < 4; what++) {
            c.due("65: the oldest one, " + what, x.ofBlow(1, what), oldest[what]);
        }
        int[] latest = {26000, Made.NONE, 400, Made.HOLDING};
        for (int what = 0; what < 4; what++) {
            c.due("65: the latest one, " + what, x.ofBlow(64, what), latest[what]);
        }
        c.due("65: the next one", x.ofBlow(65, 0), Made.NO_SUCH);
        x.undo();
        c.due("64 again: the oldest one", x.ofBlow(0, 0), 400);
        c.due("64 again: the next one", x.ofBlow(64, 0), Made.NO_SUCH);
        c.due("int min", x.ofBlow(Made.MIN, 0), Made.NO_SUCH);
        c.due("int max", x.ofBlow(Made.MAX, 0), Made.NO_SUCH);
        c.sentence("8: BAD_VALUE if what is out of range");
        int[] bad = {-1, 4, Made.MIN, Made.MAX};
        for (int what : bad) {
            c.due("ofBlow(0, " + what + ")", x.ofBlow(0, what), Made.BAD_VALUE);
            c.due("NO_SUCH goes ahead, " + what, x.ofBlow(64, what), Made.NO_SUCH);
        }
        c.sentence("8: its beat (NONE if it was held)");
        x.pass(131);
        c.due("of a beat", x.ofBlow(63, 1), 63);
        c.due("held", x.ofBlow(64, 1), Made.NONE);
    }

    private static void manyBlows() {
        c.sentence("8: the latest 64, behind more than twice as many");
        BeatFollower x = Made.with(Made.BASE, 20, Made.HOLD, 20, Made.PHASE, 0, Made.PACE, 0);
        for (int i = 0; i < 10; i++) {
            x.beat(340, 16);
        }
        x.pass(3400);
        int blows = x.count(4);
        c.due("blows", blows, 9 * 17 + 1);
        for (int blow = blows - 66; blow < blows + 2; blow++) {
            boolean kept = blow >= blows - 64 && blow < blows;
            c.due("time of " + blow, x.ofBlow(blow, 0), kept ? 4 * 340 + 80 * blow : Made.NO_SUCH);
            c.due("beat of " + blow, x.ofBlow(blow, 1),
                !kept ? Made.NO_SUCH : blow % 17 == 0 ? blow / 17 : Made.NONE);
        }
        c.due("a blow that is not kept stays with its beat", x.ofBeat(1, 3), 17);
    }

    private static void count() {
        c.sentence("9: BAD_VALUE if what is out of range");
        int[] bad = {-1, 26, 27, Made.MIN, Made.MAX};
        for (int what : bad) {
            c.due("count(" + what + ")", new BeatFollower().count(what), Made.BAD_VALUE);
        }
        c.sentence("9: 16 to 23 the settings");
        int[] first = {100, 30, 8, 4, 8, 3, 3, 6};
        for (int i = 0; i < 8; i++) {
            c.due("count(" + (16 + i) + ")", new BeatFollower().count(16 + i), first[i]);
        }
        BeatFollower x = Made.written("b1");
        x.beat(3, 0);
        c.sentence("9: 15 silences, 24 the length of the pad, 25 how many changes can be undone");
        c.due("count(15)", x.count(15), 0);
        c.due("count(24)", x.count(24), 2);
        c.due("count(25)", x.count(25), 1);
        c.sentence("9: 3 the time of the next blow, in quarters (NONE)");
        c.due("none", x.count(3), Made.NONE);
        x.pass(3);
        c.due("one", x.count(3), 412);
    }

    public static void main(String[] args) {
        divisions();
        halfWindow();
        windowIsOver();
        passedOver();
        bounds();
        boundsOfTheEnds();
        good();
        held();
        lockWon();
        lockLost();
        silence();
        slips();
        ofBeat();
        ofBlow();
        manyBlows();
        count();
        c.close();
    }
}
