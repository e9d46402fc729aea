import java.lang.management.ManagementFactory;

/** The dearest calls make no objects: whatever a run keeps is made with the drummer. */
public final class RoomTest {
    private static final Check c = new Check("RoomTest");

    private static BeatFollower made() {
        BeatFollower x = new BeatFollower();
        for (int i = 0; i < 60; i++) {
            x.beat(90 + 7 * i % 20, i % 3);
        }
        return x;
    }

    private static void calls(BeatFollower x) {
        for (int i = 0; i < 12; i++) {
            x.set(4, i);
            x.cut(1);
            x.beat(50, 0);
            x.put('b' << 8 | '5');
            x.fault();
            x.plan();
            x.worstBeat(0);
            x.bestNudge(2);
            x.endWith(i, i, 3);
            x.ifHeard(100);
            x.nextBlow(3);
            x.pass(100);
            x.save(0);
            x.restore(0);
            x.undo();
            x.anew();
            x.count(4);
            x.ofBeat(1, 1);
            x.ofBlow(1, 1);
            x.slips();
            x.wipe();
        }
    }

    public static void main(String[] args) {
        com.sun.management.ThreadMXBean bean =
            (com.sun.management.ThreadMXBean) ManagementFactory.getThreadMXBean();
        calls(made());
        BeatFollower x = made();
        long thread = Thread.currentThread().getId();
        long ahead = bean.getThreadAllocatedBytes(thread);
        calls(x);
        long used = bean.getThreadAllocatedBytes(thread) - ahead;
        c.holds("some 250 calls make " + used + " bytes", used < 4096);
        ahead = bean.getThreadAllocatedBytes(thread);
        BeatFollower y = new BeatFollower();
        used = bean.getThreadAllocatedBytes(thread) - ahead;
        c.holds("a drummer takes " + used + " bytes", used < 64 * 1024 && y.count(4) == 0);
        c.close();
    }
}
