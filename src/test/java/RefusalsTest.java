import java.util.ArrayList;
import java.util.List;

/**
 * A call that returns an error changes nothing, and what only looks changes nothing: in several states each such call is
 * made between two halves of a run, and everything that can be told behind it is as without it.
 */
public final class RefusalsTest {
    private static final Check c = new Check("RefusalsTest");
    private static final long FREE = Long.MIN_VALUE;

    private interface Run {
        void on(BeatFollower x);
    }

    private interface Call {
        long on(BeatFollower x);
    }

    private record Named(String name, Call call, long due) { }

    private record State(String name, Run run) { }

    /** Everything that is told behind a run; several drummers, since one is good for 512 calls. */
    private static List<Long> told(Run run) {
        List<Long> told = new ArrayList<>();
        BeatFollower x = made(run);
        for (int beat = 0; beat < 64; beat++) {
            for (int what = 0; what < 6; what++) {
                told.add((long) x.ofBeat(beat, what));
            }
        }
        x = made(run);
        int blows = x.count(4);
        for (int blow = blows - 65; blow <= blows; blow++) {
            for (int what = 0; what < 4; what++) {
                told.add((long) x.ofBlow(blow, what));
            }
        }
        x = made(run);
        addNumbers(told, x);
        for (int i = 1; i <= 20; i++) {
            told.add((long) x.nextBlow(i));
            told.add((long) x.ifHeard(23 * i));
            told.add((long) x.endWith(i % 17, 3 * i % 17, i % 5));
        }
        told.add((long) x.fault());
        told.add((long) x.bestNudge(Made.PHASE));
        told.add((long) x.bestNudge(Made.PACE));
        told.add((long) x.worstBeat(0));
        told.add((long) x.worstBeat(1));
        addHistory(told, made(run));
        addSlotsAndPad(told, run);
        return told;
    }

    private static BeatFollower made(Run run) {
        BeatFollower x = new BeatFollower();
        run.on(x);
        return x;
    }

    private static void addNumbers(List<Long> told, BeatFollower x) {
        for (int what = 0; what < 26; what++) {
            told.add((long) x.count(what));
        }
        told.add((long) x.slips());
        int beats = x.count(14);
        told.add((long) x.ofBeat(beats - 1, 0));
        told.add((long) x.ofBeat(beats - 1, 1));
    }

    private static void addHistory(List<Long> told, BeatFollower x) {
        for (int i = 0; i < 7; i++) {
            told.add((long) x.undo());
            addNumbers(told, x);
        }
    }

    private static void addSlotsAndPad(List<Long> told, Run run) {
        for (int slot = 0; slot < 2; slot++) {
            BeatFollower x = made(run);
            told.add((long) x.restore(slot));
            addNumbers(told, x);
            for (int beat = 0; beat < 12; beat++) {
                told.add((long) x.ofBeat(beat, 2));
                told.add((long) x.ofBlow(beat, 0));
            }
        }
        BeatFollower x = made(run);
        told.add((long) x.plan());
        addNumbers(told, x);
        // a pad with a fault tells more of itself if it grows
        x = made(run);
        told.add((long) x.put('1'));
        told.add((long) x.fault());
        told.add((long) x.plan());
        addNumbers(told, x);
        x = made(run);
        for (int i = 0; i < 5; i++) {
            told.add((long) x.pass(333));
            addNumbers(told, x);
        }
    }

    private static void onTheWay(BeatFollower x) {
        x.set(Made.WIN, 1);
        x.set(Made.LOSE, 2);
        x.set(Made.HOLD, 4);
        Made.lay(x, 100, 104, 30, 75);
        x.beat(210, 3);
        Made.lay(x, 101, 900);
        x.pass(320);
        x.save(0);
        x.pass(335);
        x.save(1);
        Made.write(x, "b10,20;m3;e5*6");
    }

    private static void faultyFullPad(BeatFollower x) {
        Made.lay(x, 100, 100, 100, 100);
        x.pass(431);
        x.save(1);
        Made.write(x, "b1" + ",1".repeat(38) + ";m");
    }

    private static void fullPlan(BeatFollower x) {
        Made.write(x, "e100*40;e97*23;m7;b300");
        x.plan();
        x.pass(3000);
        x.save(0);
        Made.write(x, "b1;m99");
    }

    private static void silence(BeatFollower x) {
        Made.hear(x, 100, 100, 100, 100, 120);
        x.pass(5000);
        x.set(Made.HOLD, 2);
        Made.write(x, "l4500;b500,1");
    }

    private static void endOfTime(BeatFollower x) {
        Made.write(x, "l9999;".repeat(9) + "l9998;b5,5");
        x.plan();
        Made.at(x, 120000);
        Made.write(x, "m98;m99;m99;m99;m99;m99;m99;m99;m99;m99;m10;b1");
    }

    private static List<State> states() {
        return List.of(new State("new", x -> { }), new State("on the way", RefusalsTest::onTheWay),
            new State("full pad", RefusalsTest::faultyFullPad), new State("full plan", RefusalsTest::fullPlan),
            new State("silence", RefusalsTest::silence), new State("end of time", RefusalsTest::endOfTime));
    }

    private static void add(List<Named> calls, String name, long due, Call call) {
        calls.add(new Named(name, call, due));
    }

    /** What is refused in every state. */
    private static List<Named> refused() {
        List<Named> calls = new ArrayList<>();
        int[][] values = {{0, 19}, {0, 401}, {1, 4}, {1, 51}, {2, -1}, {2, 17}, {3, -1}, {3, 17}, {4, -1}, {4, 41},
            {5, 0}, {5, 9}, {6, 0}, {6, 9}, {7, 0}, {7, 21}, {-1, 8}, {8, 8}};
        for (int[] v : values) {
            add(calls, "set(" + v[0] + ", " + v[1] + ")", Made.BAD_VALUE, x -> x.set(v[0], v[1]));
        }
        int[][] beats = {{0, 0}, {10000, 0}, {1, -1}, {1, 100}};
        for (int[] b : beats) {
            add(calls, "beat(" + b[0] + ", " + b[1] + ")", Made.BAD_VALUE, x -> x.beat(b[0], b[1]));
        }
        int[] outside = {Made.MIN, -1, Made.MAX};
        for (int v : outside) {
            add(calls, "cut(" + v + ")", Made.BAD_VALUE, x -> x.cut(v));
            add(calls, "pass(" + v + ")", Made.BAD_VALUE, x -> x.pass(v));
            add(calls, "ofBeat(" + v + ", 0)", Made.NO_SUCH, x -> x.ofBeat(v, 0));
            add(calls, "ofBlow(" + v + ", 0)", Made.NO_SUCH, x -> x.ofBlow(v, 0));
            add(calls, "count(" + v + ")", Made.BAD_VALUE, x -> x.count(v));
            add(calls, "nextBlow(" + v + ")", Made.BAD_VALUE, x -> x.nextBlow(v));
            add(calls, "ifHeard(" + v + ")", Made.BAD_VALUE, x -> x.ifHeard(v));
            add(calls, "endWith(0, 0, " + v + ")", Made.BAD_VALUE, x -> x.endWith(0, 0, v));
            add(calls, "endWith(0, " + v + ", 0)", Made.BAD_VALUE, x -> x.endWith(0, v, 0));
            add(calls, "endWith(" + v + ", 0, 0)", Made.BAD_VALUE, x -> x.endWith(v, 0, 0));
            add(calls, "bestNudge(" + v + ")", Made.BAD_VALUE, x -> x.bestNudge(v));
            add(calls, "worstBeat(" + v + ")", Made.BAD_VALUE, x -> x.worstBeat(v));
            add(calls, "save(" + v + ")", Made.BAD_VALUE, x -> x.save(v));
            add(calls, "restore(" + v + ")", Made.BAD_VALUE, x -> x.restore(v));
        }
        add(calls, "cut(0)", Made.BAD_VALUE, x -> x.cut(0));
        add(calls, "cut(65)", Made.BAD_VALUE, x -> x.cut(65));
        add(calls, "cut(64)", Made.NOT_POSSIBLE, x -> x.cut(64));
        add(calls, "pass(0)", Made.BAD_VALUE, x -> x.pass(0));
        add(calls, "pass(10001)", Made.BAD_VALUE, x -> x.pass(10001));
        add(calls, "save(2)", Made.BAD_VALUE, x -> x.save(2));
        add(calls, "restore(2)", Made.BAD_VALUE, x -> x.restore(2));
        add(calls, "put(0)", Made.BAD_VALUE, x -> x.put(0));
        add(calls, "put(a code 32)", Made.BAD_VALUE, x -> x.put('b' << 16 | ' ' << 8 | '1'));
        add(calls, "put(a code 127)", Made.BAD_VALUE, x -> x.put('b' << 8 | 127));
        add(calls, "put(a bit too high)", Made.BAD_VALUE, x -> x.put('b' << 16 | '1'));
        add(calls, "put(-1)", Made.BAD_VALUE, x -> x.put(-1));
        return calls;
    }

    /** What only looks; the last call of each is one whose answer is NONE in some state. */
    private static List<Named> looks() {
        List<Named> calls = new ArrayList<>();
        for (int i = 0; i < 6; i++) {
            int what = i;
            add(calls, "ofBeat(0, " + what + ")", FREE, x -> x.ofBeat(0, what));
            add(calls, "ofBlow(0, " + what + ")", FREE, x -> x.ofBlow(0, what));
            add(calls, "count(" + 5 * what + ")", FREE, x -> x.count(5 * what));
            add(calls, "endWith(16, 0, " + what + ")", FREE, x -> x.endWith(16, 0, what));
        }
        add(calls, "slips()", FREE, BeatFollower::slips);
        add(calls, "nextBlow(1)", FREE, x -> x.nextBlow(1));
        add(calls, "nextBlow(20)", FREE, x -> x.nextBlow(20));
        add(calls, "ifHeard(1)", FREE, x -> x.ifHeard(1));
        add(calls, "ifHeard(9999)", FREE, x -> x.ifHeard(9999));
        add(calls, "bestNudge(PHASE)", FREE, x -> x.bestNudge(Made.PHASE));
        add(calls, "bestNudge(PACE)", FREE, x -> x.bestNudge(Made.PACE));
        add(calls, "worstBeat(0)", FREE, x -> x.worstBeat(0));
        add(calls, "fault()", FREE, BeatFollower::fault);
        return calls;
    }

    /** What is refused in one state only. */
    private static List<Named> refusedIn(String state) {
        List<Named> calls = new ArrayList<>();
        switch (state) {
            case "new":
                add(calls, "undo()", Made.NOT_POSSIBLE, BeatFollower::undo);
                add(calls, "cut(1)", Made.NOT_POSSIBLE, x -> x.cut(1));
                add(calls, "plan() of no text", Made.BAD_TEXT, BeatFollower::plan);
                add(calls, "restore(0)", Made.NOT_POSSIBLE, x -> x.restore(0));
                add(calls, "restore(1)", Made.NOT_POSSIBLE, x -> x.restore(1));
                break;
            case "on the way":
                add(calls, "set(BASE, 50)", Made.NOT_POSSIBLE, x -> x.set(Made.BASE, 50));
                add(calls, "cut(2)", Made.NOT_POSSIBLE, x -> x.cut(2));
                break;
            case "full pad":
                add(calls, "put(1)", Made.TOO_MANY, x -> x.put('1'));
                add(calls, "plan()", Made.BAD_TEXT, BeatFollower::plan);
                add(calls, "beat(31, 0)", Made.NOT_POSSIBLE, x -> x.beat(31, 0));
                add(calls, "restore(0)", Made.NOT_POSSIBLE, x -> x.restore(0));
                break;
            case "full plan":
                add(calls, "beat(1, 0)", Made.TOO_MANY, x -> x.beat(1, 0));
                add(calls, "plan() of one beat", Made.TOO_MANY, BeatFollower::plan);
                add(calls, "restore(1)", Made.NOT_POSSIBLE, x -> x.restore(1));
                break;
            case "silence":
                add(calls, "plan(), the first beat now", Made.NOT_POSSIBLE, BeatFollower::plan);
                break;
            default:
                add(calls, "pass(1)", Made.TOO_MANY, x -> x.pass(1));
                add(calls, "beat(1, 0), at 100000", Made.NOT_POSSIBLE, x -> x.beat(1, 0));
                add(calls, "beat(2, 0), at 100001", Made.TOO_MANY, x -> x.beat(2, 0));
                add(calls, "plan(), number 1001", Made.TOO_MANY, BeatFollower::plan);
                break;
        }
        return calls;
    }

    private static void changesNothing(State state, List<Named> calls) {
        List<Long> due = told(state.run());
        for (Named named : calls) {
            String what = state.name() + ": " + named.name();
            BeatFollower x = made(state.run());
            if (named.due() == FREE) {
                named.call().on(x);
            } else {
                c.due(what, named.call().on(x), named.due());
            }
            List<Long> got = told(y -> {
                state.run().on(y);
                named.call().on(y);
            });
            for (int i = 0; i < due.size(); i++) {
                c.due(what + ", told " + i, got.get(i), due.get(i));
            }
        }
    }

    public static void main(String[] args) {
        c.sentence("A call that returns an error changes nothing");
        List<State> states = states();
        for (State state : states) {
            changesNothing(state, refused());
            changesNothing(state, refusedIn(state.name()));
        }
        c.sentence("what if; nothing changes");
        for (State state : states) {
            changesNothing(state, looks());
        }
        c.close();
    }
}
