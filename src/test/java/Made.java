/** Drummers that are made for a test, and how they are brought to where it begins. */
final class Made {
    static final int NO_SUCH = -1, BAD_VALUE = -2, BAD_TEXT = -3, TOO_MANY = -4, NOT_POSSIBLE = -5, NONE = -6;
    static final int BASE = 0, WINDOW = 1, PHASE = 2, PACE = 3, GOOD = 4, WIN = 5, LOSE = 6, HOLD = 7;
    static final int SEEKING = 0, LOCKED = 1, HOLDING = 2;
    static final int MIN = Integer.MIN_VALUE, MAX = Integer.MAX_VALUE;

    private Made() { }

    /** A drummer with some settings (setting, value, setting, value, ..) and nothing else. */
    static BeatFollower with(int... settings) {
        BeatFollower x = new BeatFollower();
        for (int i = 0; i < settings.length; i += 2) {
            x.set(settings[i], settings[i + 1]);
        }
        return x;
    }

    /** Puts beats, each so many ticks behind the one ahead of it. */
    static BeatFollower lay(BeatFollower x, int... afters) {
        for (int after : afters) {
            x.beat(after, 0);
        }
        return x;
    }

    static BeatFollower beats(int... afters) {
        return lay(new BeatFollower(), afters);
    }

    /** Puts beats and hears them, the last one with all that happens up to its time. */
    static BeatFollower hear(BeatFollower x, int... afters) {
        lay(x, afters);
        return at(x, x.ofBeat(x.count(14) - 1, 0));
    }

    static BeatFollower fullPlan() {
        BeatFollower x = new BeatFollower();
        for (int i = 0; i < 64; i++) {
            x.beat(100, 0);
        }
        return x;
    }

    /** Lets time pass up to a time, by as few calls as can be. */
    static BeatFollower at(BeatFollower x, int time) {
        // a wrong pass() must not keep the test from ending
        for (int i = 0; i < 12 && x.count(0) < time; i++) {
            x.pass(Math.min(10000, time - x.count(0)));
        }
        return x;
    }

    static long packed(String text) {
        long characters = 0;
        for (int i = 0; i < text.length(); i++) {
            characters = (characters << 8) | text.charAt(i);
        }
        return characters;
    }

    /** Writes a text on the pad, in place of what stands there. */
    static BeatFollower write(BeatFollower x, String text) {
        x.wipe();
        for (int i = 0; i < text.length(); i += 8) {
            x.put(packed(text.substring(i, Math.min(text.length(), i + 8))));
        }
        return x;
    }

    static BeatFollower written(String text) {
        return write(new BeatFollower(), text);
    }
}
