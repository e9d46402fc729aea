/** Promises 20 to 22: undo, save, restore. */
public final class BackTest {
    private static final int BAD_VALUE = -2, NOT_POSSIBLE = -5;
    private static final int MIN = Integer.MIN_VALUE, MAX = Integer.MAX_VALUE;
    private static final Check c = new Check("BackTest");

    /** What undo and restore bring back, as it is told; few enough calls for an object of 512. */
    private static int[] all(BeatFollower x) {
        int[] all = new int[24 + 1 + 48 + 32];
        int k = 0;
        for (int i = 0; i < 24; i++) {
            all[k++] = x.count(i);
        }
        all[k++] = x.slips();
        for (int i = 0; i < 48; i++) {
            all[k++] = x.ofBeat(i / 6, i % 6);
        }
        for (int i = 0; i < 32; i++) {
            all[k++] = x.ofBlow(i / 4 + 1, i % 4);
        }
        return all;
    }

    private static void same(String what, int[] got, int[] want) {
        for (int i = 0; i < want.length; i++) {
            c.due(what + ", " + i, got[i], want[i]);
        }
    }

    private static BeatFollower locked() {
        BeatFollower x = new BeatFollower();
        x.set(5, 1);
        x.set(6, 2);
        x.set(7, 3);
        int[] after = {100, 104, 30, 75, 210, 101, 900};
        for (int a : after) {
            x.beat(a, a % 2);
        }
        x.pass(640);
        return x;
    }

    private interface Change {
        int to(BeatFollower x);
    }

    private static void undone(String what, Change change) {
        BeatFollower x = locked();
        x.save(1);
        int[] ahead = all(x);
        c.holds("20: " + what + " is done", change.to(x) >= 0);
        c.due("20: " + what + " is recorded", x.count(25), 6);
        c.due("20: " + what + " is undone", x.undo(), 5);
        same("20: " + what, all(x), ahead);
        c.due("20: " + what + " and one more", x.undo(), 4);
    }

    private static void undoOfEach() {
        undone("set", x -> x.set(4, 11));
        undone("set of the same value", x -> x.set(4, 8));
        undone("beat", x -> x.beat(7, 7));
        undone("cut", x -> x.cut(1));
        undone("pass", x -> x.pass(3000));
        undone("anew", BeatFollower::anew);
        undone("restore", x -> x.restore(1));
        undone("plan", x -> x.put('b' << 8 | '5') + x.plan());
        undone("plan without a beat", x -> x.put('m' << 8 | '5') + x.plan());
    }

    private static void undoHistory() {
        BeatFollower x = new BeatFollower();
        c.due("20: nothing to undo", x.undo(), NOT_POSSIBLE);
        for (int i = 1; i <= 10; i++) {
            c.due("20: beat " + i, x.beat(i, 0), i);
            c.due("20: history of " + i, x.count(25), Math.min(i, 6));
        }
        for (int i = 5; i >= 0; i--) {
            c.due("20: undo", x.undo(), i);
            c.due("20: beats", x.count(14), 4 + i);
            c.due("20: the last beat's time", x.ofBeat(3 + i, 0), (4 + i) * (5 + i) / 2);
        }
        c.due("20: the others were dropped", x.undo(), NOT_POSSIBLE);
        c.due("20: four stay", x.count(14), 4);
        x.beat(1, 0);
        x.beat(1, 0);
        c.due("20: undo again", x.undo(), 1);
        x.beat(2, 0);
        c.due("20: and again", x.undo(), 1);
        c.due("20: five", x.count(14), 5);
        c.due("20: the last undo", x.undo(), 0);
        c.due("20: nothing more", x.undo(), NOT_POSSIBLE);
    }

    private static void errorsAndQuestionsAreNoChanges() {
        BeatFollower x = new BeatFollower();
        x.beat(100, 0);
        x.pass(100);
        x.set(9, 9);
        x.set(0, 50);
        x.beat(0, 0);
        x.cut(65);
        x.pass(0);
        x.plan();
        x.restore(0);
        x.restore(2);
        x.save(0);
        x.save(7);
        x.put('b');
        x.fault();
        x.wipe();
        x.nextBlow(1);
        x.ifHeard(1);
        x.endWith(1, 1, 1);
        x.bestNudge(2);
        x.worstBeat(0);
        x.slips();
        c.due("20: no change among them", x.count(25), 2);
    }

    private static void padSlotsAndHistoryStay() {
        BeatFollower x = new BeatFollower();
        x.beat(10, 0);
        x.put('b');
        x.pass(1);
        x.put('7');
        c.due("20: undo", x.undo(), 1);
        c.due("20: the pad stays", x.count(24), 2);
        x.pass(3);
        x.save(0);
        x.undo();
        c.due("20: the slots stay", x.restore(0), 3);
        x.undo();
        c.due("20: a restore is undone", x.count(0), 0);
        c.due("20: it is left in the slot", x.restore(0), 3);
        c.due("20: plan", x.plan(), 2);
        c.due("20: undo of plan", x.undo() * 100 + x.count(14), 201);
        c.due("20: what was on the pad is gone", x.count(24), 0);
    }

    private static void save() {
        BeatFollower x = new BeatFollower();
        int[] bad = {-1, 2, MIN, MAX};
        for (int b : bad) {
            c.due("21: save(" + b + ")", x.save(b), BAD_VALUE);
            c.due("22: restore(" + b + ")", x.restore(b), BAD_VALUE);
        }
        c.due("22: nothing saved, 0", x.restore(0), NOT_POSSIBLE);
        c.due("21: save at 0", x.save(0), 0);
        c.due("22: nothing saved, 1", x.restore(1), NOT_POSSIBLE);
        c.due("21: no change", x.count(25), 0);
        x = locked();
        int[] first = all(x);
        c.due("21: save", x.save(0), 640);
        x.pass(100);
        x.set(3, 9);
        int[] second = all(x);
        c.due("21: save in the other one", x.save(1), 740);
        x.anew();
        c.due("22: restore(0)", x.restore(0), 640);
        same("22: of slot 0", all(x), first);
        c.due("22: restore(1)", x.restore(1), 740);
        same("22: of slot 1", all(x), second);
    }

    private static void overwritten() {
        BeatFollower x = locked();
        int[] first = all(x);
        x.save(0);
        x.pass(5000);
        x.save(1);
        c.due("22: restore(0)", x.restore(0), 640);
        x.anew();
        c.due("22: restore(0) again", x.restore(0), 640);
        same("22: of slot 0 again", all(x), first);
        x.pass(20);
        c.due("21: overwrite", x.save(0), 660);
        x.pass(20);
        c.due("22: overwritten", x.restore(0), 660);
        c.due("22: the other one stays", x.restore(1), 5640);
    }

    private static void restoreIsAChange() {
        BeatFollower x = new BeatFollower();
        x.save(0);
        c.due("22: restore", x.restore(0), 0);
        c.due("22: recorded", x.count(25), 1);
        x.put('l');
        x.beat(5, 0);
        c.due("22: restore again", x.restore(0), 0);
        c.due("22: the pad stays", x.count(24), 1);
        c.due("22: the history stays", x.count(25), 3);
        c.due("22: no beat", x.count(14), 0);
        c.due("22: undone", x.undo(), 2);
        c.due("22: the beat is back", x.count(14), 1);
    }

    private static void goesOnAsBefore() {
        BeatFollower x = locked();
        x.save(0);
        x.pass(900);
        int[] due = all(x);
        x.restore(0);
        x.pass(900);
        same("22: goes on as before", all(x), due);
        x.undo();
        x.pass(900);
        same("20: goes on as before", all(x), due);
    }

    /** Hears another plan, so that every row of what was is written over. */
    private static void hearAnother(BeatFollower x) {
        x.anew();
        x.cut(7);
        x.set(2, 0);
        for (int i = 0; i < 8; i++) {
            x.beat(77 + 9 * (i % 3), 2);
        }
        x.pass(2000);
    }

    private static void rowsComeBack() {
        BeatFollower x = locked();
        int[] due = all(x);
        x.save(0);
        hearAnother(x);
        x.restore(0);
        same("22: behind another plan", all(x), due);
        hearAnother(x);
        x.save(1);
        x.restore(0);
        x.pass(1);
        x.restore(1);
        x.undo();
        x.undo();
        same("20: behind another plan", all(x), due);
    }

    /** Bad ones in a row and the lead are not told by themselves, or seldom; what comes behind tells them. */
    private static void rowsInARowAndLeadComeBack() {
        BeatFollower x = new BeatFollower();
        x.beat(100, 4);
        x.beat(20, 0);
        x.pass(130);
        x.save(0);
        c.due("22: a bad one", x.count(12), 1);
        x.pass(5000);
        x.restore(0);
        c.due("22: a bad one again", x.count(12), 1);
        x.beat(80, 1);
        x.pass(80);
        c.due("22: the lead is that of the first beat", x.ofBeat(2, 5), 1002);
        x.anew();
        x.cut(3);
        x.beat(100, 9);
        x.pass(150);
        x.undo();
        x.restore(0);
        x.beat(80, 1);
        x.pass(80);
        c.due("22: and again", x.ofBeat(2, 5), 1002);
    }

    public static void main(String[] args) {
        undoOfEach();
        undoHistory();
        errorsAndQuestionsAreNoChanges();
        padSlotsAndHistoryStay();
        save();
        overwritten();
        restoreIsAChange();
        goesOnAsBefore();
        rowsComeBack();
        rowsInARowAndLeadComeBack();
        c.close();
    }
}
