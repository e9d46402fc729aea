/** A test for each sentence with a boundary in promises 20 to 22. */
public final class EdgesOfBackTest {
    private static final Check c = new Check("EdgesOfBackTest");

    private interface Call {
        int on(BeatFollower x);
    }

    private static void undoOfNone() {
        c.sentence("20: NOT_POSSIBLE if there is none");
        BeatFollower x = new BeatFollower();
        c.due("a new one", x.undo(), Made.NOT_POSSIBLE);
        x.set(4, 8);
        c.due("the only one", x.undo(), 0);
        c.due("none is left", x.undo(), Made.NOT_POSSIBLE);
        x.set(4, 9);
        c.due("another one", x.undo(), 0);
        c.due("it is undone", x.count(20), 8);
        c.due("none is left again", x.undo(), Made.NOT_POSSIBLE);
        c.due("none is counted", x.count(25), 0);
    }

    private static void sixStates() {
        c.sentence("20: A history of at most 6 states is kept; when one more is recorded, the oldest one is dropped");
        for (int changes = 1; changes <= 14; changes++) {
            BeatFollower x = new BeatFollower();
            for (int i = 1; i <= changes; i++) {
                x.set(Made.BASE, 20 + i);
                c.due("changes behind " + i, x.count(25), Math.min(i, 6));
            }
            int kept = Math.min(changes, 6);
            for (int i = 1; i <= kept; i++) {
                c.due("undo " + i + " of " + changes, x.undo(), kept - i);
                c.due("state behind it", x.count(16), i == changes ? 100 : 20 + changes - i);
                c.due("count(25) behind it", x.count(25), kept - i);
            }
            c.due("one more undo of " + changes, x.undo(), Made.NOT_POSSIBLE);
            c.due("the state of the oldest one stays", x.count(16), kept == changes ? 100 : 20 + changes - 6);
        }
        c.sentence("20: undo and new changes by turns");
        BeatFollower x = new BeatFollower();
        for (int i = 1; i <= 9; i++) {
            x.set(Made.BASE, 20 + i);
        }
        x.undo();
        x.undo();
        for (int i = 1; i <= 3; i++) {
            x.set(Made.BASE, 40 + i);
        }
        c.due("four, and three more", x.count(25), 6);
        int[] due = {42, 41, 27, 26, 25, 24};
        for (int i = 0; i < 6; i++) {
            c.due("undo " + i, x.undo(), 5 - i);
            c.due("state " + i, x.count(16), due[i]);
        }
        c.due("the seventh one", x.undo(), Made.NOT_POSSIBLE);
    }

    private static void recorded(String what, BeatFollower x, Call call) {
        int ahead = x.count(25);
        c.holds(what + " is no error", call.on(x) >= 0);
        c.due(what, x.count(25), ahead + 1);
        c.due(what + ", undone", x.undo(), ahead);
    }

    private static void alsoIfNothingIsDifferent() {
        c.sentence("20: each method that is a change records the state (also if nothing is different then)");
        for (int setting = 0; setting < 8; setting++) {
            int s = setting;
            recorded("set " + s + " as it is", new BeatFollower(), x -> x.set(s, x.count(16 + s)));
        }
        recorded("anew of a new one", new BeatFollower(), BeatFollower::anew);
        recorded("pass, with nothing to happen", new BeatFollower(), x -> x.pass(1));
        recorded("beat", new BeatFollower(), x -> x.beat(1, 0));
        recorded("cut", Made.beats(1), x -> x.cut(1));
        recorded("plan", Made.written("b1"), BeatFollower::plan);
        recorded("plan without a beat", Made.written("m1"), BeatFollower::plan);
        BeatFollower saved = new BeatFollower();
        saved.save(1);
        recorded("restore of what is as it is", saved, x -> x.restore(1));
    }

    private static void notRecorded(String what, Call call) {
        BeatFollower x = Made.lay(Made.written("b5"), 100, 50, 300);
        x.pass(200);
        int ahead = x.count(25);
        call.on(x);
        c.due(what, x.count(25), ahead);
        c.due(what + ": the latest change is pass(200)", x.undo(), ahead - 1);
        c.due(what + ": it is undone", x.count(0), 0);
    }

    private static void whatIsNoChange() {
        c.sentence("20: each method that is a change, and returns no error: no other one");
        notRecorded("put", x -> x.put('1'));
        notRecorded("wipe", BeatFollower::wipe);
        notRecorded("fault", BeatFollower::fault);
        notRecorded("save", x -> x.save(0));
        notRecorded("ofBeat", x -> x.ofBeat(0, 0));
        notRecorded("ofBlow", x -> x.ofBlow(0, 0));
        notRecorded("count", x -> x.count(0));
        notRecorded("slips", BeatFollower::slips);
        notRecorded("nextBlow", x -> x.nextBlow(1));
        notRecorded("ifHeard", x -> x.ifHeard(9999));
        notRecorded("endWith", x -> x.endWith(0, 0, 0));
        notRecorded("bestNudge", x -> x.bestNudge(Made.PACE));
        notRecorded("worstBeat", x -> x.worstBeat(0));
        notRecorded("set, an error", x -> x.set(Made.BASE, 50));
        notRecorded("beat, an error", x -> x.beat(0, 0));
        notRecorded("cut, an error", x -> x.cut(3));
        notRecorded("pass, an error", x -> x.pass(0));
        notRecorded("plan, an error", x -> x.put('x') + x.plan());
        notRecorded("restore, an error", x -> x.restore(0));
    }

    private static void whatStays() {
        c.sentence("20: everything except the pad, the slots and the history is as it was before it");
        BeatFollower x = Made.beats(100);
        x.pass(100);
        x.save(0);
        x.put('b');
        x.undo();
        c.due("the time", x.count(0), 0);
        c.due("the pad stays", x.count(24), 1);
        x.undo();
        c.due("the plan", x.count(14), 0);
        c.due("the slot stays", x.restore(0), 100);
        c.due("with the plan", x.count(14), 1);
        x = Made.written("b1");
        x.plan();
        x.undo();
        c.due("plan() emptied the pad, and it stays so", x.count(24), 0);
    }

    private static void slots() {
        c.sentence("21, 22: BAD_VALUE if there is no such slot");
        int[] none = {-1, 2, Made.MIN, Made.MAX};
        BeatFollower x = new BeatFollower();
        for (int slot : none) {
            c.due("save(" + slot + ")", x.save(slot), Made.BAD_VALUE);
            c.due("restore(" + slot + "), nothing is saved", x.restore(slot), Made.BAD_VALUE);
        }
        c.sentence("22: NOT_POSSIBLE if nothing was saved in it");
        c.due("restore(0)", x.restore(0), Made.NOT_POSSIBLE);
        c.due("restore(1)", x.restore(1), Made.NOT_POSSIBLE);
        x.pass(5);
        c.due("save(1)", x.save(1), 5);
        c.due("restore(0) behind save(1)", x.restore(0), Made.NOT_POSSIBLE);
        c.due("restore(1) behind save(1)", x.restore(1), 5);
        x = new BeatFollower();
        c.due("save(0)", x.save(0), 0);
        c.due("restore(1) behind save(0)", x.restore(1), Made.NOT_POSSIBLE);
        c.due("restore(0) behind save(0)", x.restore(0), 0);
        for (int slot : none) {
            c.due("save(" + slot + "), one is saved", x.save(slot), Made.BAD_VALUE);
            c.due("restore(" + slot + "), one is saved", x.restore(slot), Made.BAD_VALUE);
        }
        x = new BeatFollower();
        x.pass(5);
        x.save(0);
        x.undo();
        c.due("saved, although the change ahead of it was undone", x.restore(0), 5);
    }

    private static void saving() {
        c.sentence("21: overwrites what was saved there");
        BeatFollower x = new BeatFollower();
        x.pass(1);
        x.save(0);
        x.pass(1);
        x.save(1);
        x.pass(1);
        c.due("save(0) again", x.save(0), 3);
        x.pass(1);
        c.due("restore(0)", x.restore(0), 3);
        c.due("restore(1) is as it was", x.restore(1), 2);
        c.sentence("22: a slot, which keeps it");
        c.due("once more", x.restore(0), 3);
        x.pass(7);
        c.due("once more behind a change", x.restore(0), 3);
        x.undo();
        c.due("undone", x.count(0), 10);
        c.due("once more behind undo()", x.restore(0), 3);
        c.sentence("21: everything except the pad, the history and the slots");
        x = Made.written("b7");
        x.pass(1);
        x.save(0);
        x.put('1');
        x.pass(1);
        x.save(1);
        x.pass(1);
        c.due("restore(0)", x.restore(0), 1);
        c.due("the pad", x.count(24), 3);
        c.due("the history, and this change", x.count(25), 4);
        c.due("the other slot", x.restore(1), 2);
        c.due("the settings are saved", settingsAreSaved(), 20);
        c.sentence("22: a full history drops its oldest one, too");
        x = new BeatFollower();
        x.save(0);
        for (int i = 1; i <= 6; i++) {
            x.set(Made.BASE, 20 + i);
        }
        x.restore(0);
        c.due("six", x.count(25), 6);
        for (int i = 6; i >= 1; i--) {
            x.undo();
            c.due("undo of " + i, x.count(16), 20 + i);
        }
        c.due("no seventh", x.undo(), Made.NOT_POSSIBLE);
    }

    private static int settingsAreSaved() {
        BeatFollower x = Made.with(Made.BASE, 20);
        x.save(0);
        x.set(Made.BASE, 50);
        x.restore(0);
        return x.count(16);
    }

    private static void fullRows() {
        c.sentence("20, 22: a full plan, and the oldest of 64 blows");
        BeatFollower x = Made.at(Made.fullPlan(), 6531);
        x.save(0);
        x.anew();
        Made.at(x, 10000);
        x.cut(64);
        x.anew();
        x.cut(64);
        x.beat(1, 5);
        Made.at(x, 9000);
        c.due("restore(0)", x.restore(0), 6531);
        c.due("beats", x.count(14), 64);
        c.due("the first beat", x.ofBeat(0, 0), 100);
        c.due("its blow", x.ofBeat(0, 3), 0);
        c.due("the last beat", x.ofBeat(63, 0), 6400);
        c.due("its fate", x.ofBeat(63, 2), 2);
        c.due("the blow ahead of the oldest one", x.ofBlow(0, 0), Made.NO_SUCH);
        c.due("the oldest one", x.ofBlow(1, 0), 800);
        c.due("the latest one", x.ofBlow(64, 1), Made.NONE);
        x.undo();
        c.due("undone: beats", x.count(14), 1);
        c.due("undone: its number", x.ofBeat(0, 1), 5);
        c.due("undone: the first blow", x.ofBlow(0, 0), 4);
    }

    public static void main(String[] args) {
        undoOfNone();
        sixStates();
        alsoIfNothingIsDifferent();
        whatIsNoChange();
        whatStays();
        slots();
        saving();
        fullRows();
        c.close();
    }
}
