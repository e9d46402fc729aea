/** What happens: A, B.1, B.2 and C, the lock, the silence, the nudges and the slips (promises 5 and 7 to 10). */
public final class HappeningsTest {
    private static final int SEEKING = 0, LOCKED = 1, HOLDING = 2, NONE = -6;
    private static final int BASE = 0, WINDOW = 1, PHASE = 2, PACE = 3, GOOD = 4, WIN = 5, LOSE = 6, HOLD = 7;
    private static final Check c = new Check("HappeningsTest");

    /** Puts beats, each so many ticks behind the one ahead of it, and hears them. */
    private static void hear(BeatFollower x, int... afters) {
        int sum = x.count(14) == 0 ? 0 : x.ofBeat(x.count(14) - 1, 0);
        for (int after : afters) {
            c.holds("a beat is put", x.beat(after, 0) > 0);
            sum += after;
        }
        c.due("time passes", x.pass(sum - x.count(0)), sum);
    }

    private static void struckWith() {
        BeatFollower x = Made.with();
        hear(x, 70);
        c.due("A: the next blow", x.count(3), 4 * 70 + 400);
        c.due("A: became", x.ofBeat(0, 2), 3);
        c.due("A: blow", x.ofBeat(0, 3), 0);
        c.due("A: off", x.ofBeat(0, 4), NONE);
        c.due("A: slip", x.ofBeat(0, 5), 1000);
        c.due("A: blow's time", x.ofBlow(0, 0), 280);
        c.due("A: blow's beat", x.ofBlow(0, 1), 0);
        c.due("A: blow's period", x.ofBlow(0, 2), 400);
        c.due("A: blow's state", x.ofBlow(0, 3), SEEKING);
        c.due("A: period stays", x.count(2), 400);
        c.due("A: blows", x.count(4), 1);
        c.due("A: held", x.count(5), 0);
        c.due("A: heard", x.count(6), 1);
        c.due("A: good ones in a row", x.count(11), 0);
        c.due("A: bad ones in a row", x.count(12), 0);
    }

    private static void nudges() {
        BeatFollower x = Made.with();
        hear(x, 100, 99);
        c.due("B.2: -4 nudges the period", x.count(2), 399);
        c.due("B.2: -4 nudges the blow", x.count(3), 800 - 2 + 399);
        hear(x, 99);
        c.due("B.2: off", x.ofBeat(2, 4), 100000 - 5);
        c.due("B.2: -5 * 4 / 16 is -2", x.count(2), 397);
        c.due("B.2: -5 * 8 / 16 is -3", x.count(3), 1197 - 3 + 397);
        c.due("B.2: blow's time is as awaited", x.ofBlow(2, 0), 1197);
        c.due("B.2: blow's period is that behind it", x.ofBlow(2, 2), 397);
        c.due("B.2: blow's beat", x.ofBlow(2, 1), 2);
        x = Made.with(PHASE, 3, PACE, 7);
        hear(x, 100, 105);
        c.due("B.2: 20 * 7 / 16 is 8", x.count(2), 408);
        c.due("B.2: 20 * 3 / 16 is 3", x.count(3), 800 + 3 + 408);
        x = Made.with(PHASE, 0, PACE, 0);
        hear(x, 100, 120);
        c.due("B.2: no nudge of the period", x.count(2), 400);
        c.due("B.2: no nudge of the blow", x.count(3), 1200);
        x = Made.with(PHASE, 16, PACE, 16);
        hear(x, 100, 120);
        c.due("B.2: whole nudge of the period", x.count(2), 480);
        c.due("B.2: whole nudge of the blow", x.count(3), 880 + 480);
    }

    private static void bounds() {
        BeatFollower x = Made.with(WINDOW, 50, PHASE, 0, PACE, 16);
        hear(x, 100, 150);
        c.due("B.2: as late as the window allows", x.ofBeat(1, 4), 100200);
        c.due("B.2: 600", x.count(2), 600);
        hear(x, 175);
        c.due("B.2: 8 * BASE at most", x.count(2), 800);
        c.due("B.2: the blow uses the bounded period", x.count(3), 1400 + 800);
        x = Made.with(WINDOW, 50, PHASE, 0, PACE, 16);
        hear(x, 100, 50);
        c.due("B.2: as early as the window allows", x.ofBeat(1, 2), 2);
        c.due("B.2: 200", x.count(2), 200);
        hear(x, 75);
        c.due("B.2: early again", x.ofBeat(2, 4), 100000 - 100);
        c.due("B.2: 2 * BASE at least", x.count(2), 200);
        c.due("B.2: the blow behind it", x.count(3), 1000 + 200);
    }

    private static void passedOver() {
        BeatFollower x = Made.with();
        hear(x, 100, 69);
        c.due("B.1: -124 with a half window of 120", x.ofBeat(1, 2), 1);
        c.due("B.1: off", x.ofBeat(1, 4), 100000 - 124);
        c.due("B.1: no blow", x.ofBeat(1, 3), NONE);
        c.due("B.1: no slip", x.ofBeat(1, 5), NONE);
        c.due("B.1: counted", x.count(7), 1);
        c.due("B.1: heard", x.count(6), 2);
        c.due("B.1: no blow is struck", x.count(4), 1);
        c.due("B.1: the next blow stays", x.count(3), 800);
        c.due("B.1: the period stays", x.count(2), 400);
        c.due("B.1: bad", x.count(12), 1);
        x = Made.with(BASE, 103);
        hear(x, 100, 72);
        c.due("B.1: -124 with a half window of 412 * 30 / 100, rounded down", x.ofBeat(1, 2), 1);
        x = Made.with();
        hear(x, 100, 70);
        c.due("B.2: -120 with a half window of 120", x.ofBeat(1, 2), 2);
        c.due("B.2: bad, too", x.count(12), 1);
        x = Made.with();
        hear(x, 100, 130);
        c.due("B.2: 120 with a half window of 120", x.ofBeat(1, 2), 2);
    }

    private static void goodAndBad() {
        int[][] cases = {{108, 1}, {109, 0}, {92, 1}, {91, 0}, {100, 1}};
        for (int[] k : cases) {
            BeatFollower x = Made.with();
            hear(x, 100, k[0]);
            c.due("good ones in a row, " + k[0] + " behind", x.count(11), k[1]);
            c.due("bad ones in a row, " + k[0] + " behind", x.count(12), 1 - k[1]);
        }
        BeatFollower x = Made.with(GOOD, 10, PACE, 16);
        hear(x, 100, 111);
        c.due("44 is bad: the period ahead of it counts", x.count(12), 1);
        x = Made.with(BASE, 112);
        hear(x, 100, 121);
        c.due("36 is bad with 448 * 8 / 100, rounded down", x.count(12), 1);
        x = Made.with(GOOD, 0, PHASE, 0, PACE, 0);
        hear(x, 100, 100, 100, 101);
        c.due("GOOD 0: bad behind two good ones", x.count(12), 1);
        c.due("GOOD 0: good ones begin anew", x.count(11), 0);
        hear(x, 99);
        c.due("GOOD 0: good behind a bad one", x.count(11), 1);
        c.due("GOOD 0: bad ones begin anew", x.count(12), 0);
    }

    private static void lockWonAndLost() {
        BeatFollower x = Made.with();
        hear(x, 100, 100, 100);
        c.due("two good ones", x.count(1), SEEKING);
        hear(x, 100);
        c.due("three good ones", x.count(1), LOCKED);
        c.due("won", x.count(8), 1);
        c.due("the blow knows the state behind it", x.ofBlow(3, 3), LOCKED);
        c.due("the blow ahead of it", x.ofBlow(2, 3), SEEKING);
        hear(x, 100);
        c.due("won once", x.count(8), 1);
        c.due("good ones go on", x.count(11), 4);
        hear(x, 20, 10);
        c.due("two passed over, still locked", x.count(1), LOCKED);
        c.due("two bad ones", x.count(12), 2);
        hear(x, 10);
        c.due("three passed over", x.count(1), SEEKING);
        c.due("lost", x.count(9), 1);
        c.due("bad ones begin anew", x.count(12), 0);
        c.due("good ones begin anew", x.count(11), 0);
        hear(x, 10);
        c.due("who is seeking loses nothing", x.count(9), 1);
        c.due("bad ones go on", x.count(12), 1);
    }

    private static void lostByBadTakenOnes() {
        BeatFollower x = Made.with(WIN, 1, LOSE, 2, PHASE, 0, PACE, 0);
        hear(x, 100, 100);
        c.due("won by one", x.count(1), LOCKED);
        hear(x, 120);
        c.due("one bad one", x.count(1), LOCKED);
        c.due("it is bad", x.count(12), 1);
        hear(x, 100);
        c.due("a second bad one", x.count(1), SEEKING);
        c.due("lost", x.count(9), 1);
        c.due("the blow knows", x.ofBlow(3, 3), SEEKING);
        for (int i = 0; i < 5; i++) {
            hear(x, 100);
        }
        c.due("bad ones above LOSE while seeking", x.count(12), 5);
        c.due("lost once", x.count(9), 1);
    }

    private static void holding() {
        BeatFollower x = Made.with(WIN, 2, LOSE, 4, HOLD, 20);
        hear(x, 100, 100, 100);
        c.due("locked", x.count(1), LOCKED);
        x.pass(130);
        c.due("the window is not over yet", x.count(1), LOCKED);
        x.pass(1);
        c.due("C: holding", x.count(1), HOLDING);
        c.due("C: held", x.count(5), 1);
        c.due("C: blows", x.count(4), 4);
        c.due("C: held in a row", x.count(13), 1);
        c.due("C: bad", x.count(12), 1);
        c.due("C: good ones begin anew", x.count(11), 0);
        c.due("C: the next blow", x.count(3), 1600 + 400);
        c.due("C: the period stays", x.count(2), 400);
        c.due("C: blow's time", x.ofBlow(3, 0), 1600);
        c.due("C: blow's beat", x.ofBlow(3, 1), NONE);
        c.due("C: blow's period", x.ofBlow(3, 2), 400);
        c.due("C: blow's state", x.ofBlow(3, 3), HOLDING);
        x.beat(200, 1);
        x.pass(69);
        c.due("one good one is too few", x.count(1), HOLDING);
        c.due("held in a row begin anew", x.count(13), 0);
        hear(x, 100);
        c.due("locked again", x.count(1), LOCKED);
        c.due("won twice", x.count(8), 2);
        c.due("never lost", x.count(9), 0);
        x.pass(331);
        c.due("three held", x.count(13), 3);
        c.due("still holding", x.count(1), HOLDING);
        x.pass(100);
        c.due("four bad ones", x.count(1), SEEKING);
        c.due("lost", x.count(9), 1);
        c.due("held in a row go on", x.count(13), 4);
        c.due("no silence", x.count(15), 0);
        c.due("blow's state behind the loss", x.ofBlow(x.count(4) - 1, 3), SEEKING);
    }

    private static void heldGoOnOverPassedOnes() {
        BeatFollower x = Made.with(HOLD, 2);
        hear(x, 100);
        x.pass(131);
        c.due("one held", x.count(13), 1);
        hear(x, 140);
        c.due("passed over", x.ofBeat(1, 2), 1);
        c.due("held in a row stay", x.count(13), 1);
        c.due("bad ones", x.count(12), 2);
        x.pass(91);
        c.due("silence", x.count(15), 1);
    }

    private static void silence() {
        BeatFollower x = Made.with(WIN, 1, LOSE, 8, HOLD, 2);
        hear(x, 100, 100);
        x.pass(131);
        c.due("one held", x.count(1), HOLDING);
        c.due("no silence yet", x.count(15), 0);
        x.pass(100);
        c.due("silence", x.count(15), 1);
        c.due("the lock is lost", x.count(9), 1);
        c.due("seeking", x.count(1), SEEKING);
        c.due("good ones", x.count(11), 0);
        c.due("bad ones", x.count(12), 0);
        c.due("held in a row", x.count(13), 0);
        c.due("no next blow", x.count(3), NONE);
        c.due("held ones stay counted", x.count(5), 2);
        c.due("the last blow's state", x.ofBlow(3, 3), SEEKING);
        c.due("the last blow's time", x.ofBlow(3, 0), 1600);
        x.pass(1000);
        c.due("nothing happens in a silence", x.count(4), 4);
        hear(x, 2000);
        c.due("a blow is struck with the next beat", x.ofBeat(2, 2), 3);
        c.due("its blow", x.ofBeat(2, 3), 4);
        x = Made.with(HOLD, 1);
        hear(x, 100);
        x.pass(131);
        c.due("silence of who is seeking", x.count(15), 1);
        c.due("bad ones are forgotten", x.count(12), 0);
        c.due("nothing was lost", x.count(9), 0);
        x = Made.with(WIN, 1, LOSE, 2, HOLD, 2);
        hear(x, 100, 100);
        x.pass(231);
        c.due("lost by bad ones and silent at once", x.count(15), 1);
        c.due("lost once", x.count(9), 1);
        x = Made.with(WIN, 2, LOSE, 8, HOLD, 1, PACE, 16);
        hear(x, 100, 105);
        x.pass(200);
        c.due("the period stays in a silence", x.count(2), 420);
        c.due("one good one is forgotten", x.count(11), 0);
    }

    private static void settingsOnTheWay() {
        BeatFollower x = Made.with(WIN, 8);
        hear(x, 100, 100, 100);
        x.set(WIN, 2);
        c.due("WIN alone wins nothing", x.count(1), SEEKING);
        hear(x, 100);
        c.due("the next good one does", x.count(1), LOCKED);
        hear(x, 10, 10);
        x.set(LOSE, 1);
        c.due("LOSE alone loses nothing", x.count(1), LOCKED);
        hear(x, 80);
        c.due("a good one saves the lock", x.count(1), LOCKED);
        hear(x, 10);
        c.due("a bad one loses it", x.count(1), SEEKING);
        x = Made.with(HOLD, 20);
        hear(x, 100);
        x.pass(331);
        c.due("three held", x.count(13), 3);
        x.set(HOLD, 2);
        c.due("HOLD alone makes no silence", x.count(3), 2000);
        x.pass(100);
        c.due("the next held one does", x.count(15), 1);
        x = Made.with(WINDOW, 50);
        hear(x, 100);
        x.pass(140);
        c.due("the window is open", x.count(5), 0);
        x.set(WINDOW, 5);
        c.due("still open", x.count(5), 0);
        x.pass(1);
        c.due("a narrower window was over", x.count(5), 1);
        c.due("its blow", x.ofBlow(1, 0), 800);
        x = Made.with();
        hear(x, 100);
        x.pass(120);
        x.set(WINDOW, 50);
        x.pass(20);
        c.due("a wider window is open longer", x.count(5), 0);
    }

    private static void slips() {
        BeatFollower x = Made.with();
        x.beat(100, 5);
        x.beat(200, 0);
        x.beat(50, 0);
        x.beat(50, 0);
        x.pass(400);
        c.due("no slip with A", x.ofBeat(0, 5), 1000);
        c.due("a blow too many", x.ofBeat(1, 5), 999);
        c.due("its blow", x.ofBeat(1, 3), 2);
        c.due("none of a passed over one", x.ofBeat(2, 5), NONE);
        c.due("a blow too few", x.ofBeat(3, 5), 1001);
        c.due("told", x.count(10), 2);
        c.due("sum", x.slips(), 100000);
        hear(x, 100);
        c.due("no slip", x.ofBeat(4, 5), 1000);
        c.due("still two told", x.count(10), 2);
        x.beat(100, 7);
        x.pass(100);
        c.due("seven blows too few", x.ofBeat(5, 5), 1007);
        c.due("sum", x.slips(), 100007);
        x.beat(1500, 90);
        x.pass(1500);
        c.due("behind a silence", x.ofBeat(6, 5), 1000);
        c.due("sum stays", x.slips(), 100007);
        x.beat(100, 1);
        x.pass(100);
        c.due("the lead of A counts", x.ofBeat(7, 5), 1001);
        x = Made.with();
        x.beat(100, 0);
        x.beat(300, 0);
        x.pass(400);
        c.due("two blows too many", x.ofBeat(1, 5), 998);
        c.due("sum below", x.slips(), 99998);
        c.due("told once", x.count(10), 1);
    }

    public static void main(String[] args) {
        struckWith();
        nudges();
        bounds();
        passedOver();
        goodAndBad();
        lockWonAndLost();
        lostByBadTakenOnes();
        holding();
        heldGoOnOverPassedOnes();
        silence();
        settingsOnTheWay();
        slips();
        c.close();
    }
}
