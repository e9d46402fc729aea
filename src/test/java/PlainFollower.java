import java.util.ArrayList;
import java.util.List;
import java.util.regex.Matcher;
import java.util.regex.Pattern;

/**
 * The document once more, written as plainly as can be and in another way than BeatFollower: worlds that are copied
 * whole, beats and blows as objects in lists, forecasts by letting a copy of the world go on, texts by a pattern.
 */
final class PlainFollower {
    private static final int NO_SUCH = -1, BAD_VALUE = -2, BAD_TEXT = -3, TOO_MANY = -4, NOT_POSSIBLE = -5, NONE = -6;
    private static final int[][] RANGES = {
        {20, 400}, {5, 50}, {0, 16}, {0, 16}, {0, 40}, {1, 8}, {1, 8}, {1, 20}};

    /** A number that may stand; "no" is a sign that no text has, so that nothing can stand behind it. */
    private static final String TO_999 = "([1-9][0-9]{0,2}|0no)";
    private static final String TO_9999 = "([1-9][0-9]{0,3}|0no)";
    private static final String TO_99 = "([1-9][0-9]?|0no)";
    private static final String TO_40 = "([2-9]|[1-3][0-9]|40|0no|1no)";
    private static final String PART = "(b" + TO_999 + "(," + TO_999 + ")*|e" + TO_999 + "\\*" + TO_40
        + "|m" + TO_99 + "|l" + TO_9999 + ")";
    private static final Pattern TEXT = Pattern.compile((PART + "(;" + PART + ")*").replace("no", "\u0001"));

    private static final class Beat {
        int time;
        int number;
        int kind;
        int blow = NONE;
        Integer off;
        Integer slip;
        boolean lockedAhead;

        Beat(int time, int number) {
            this.time = time;
            this.number = number;
        }

        Beat(Beat o) {
            this(o.time, o.number);
            kind = o.kind;
            blow = o.blow;
            off = o.off;
            slip = o.slip;
            lockedAhead = o.lockedAhead;
        }
    }

    private record Blow(int time, int beat, int period, int state) { }

    private static final class World {
        int[] set = {100, 30, 8, 4, 8, 3, 3, 6};
        List<Beat> beats = new ArrayList<>();
        List<Blow> blows = new ArrayList<>();
        int now;
        int state;
        int period = 400;
        Integer next;
        int good;
        int bad;
        int heldRow;
        int won;
        int lost;
        int silences;
        Integer lead;

        World() { }

        World(World o) {
            set = o.set.clone();
            for (Beat b : o.beats) {
                beats.add(new Beat(b));
            }
            blows.addAll(o.blows);
            now = o.now;
            state = o.state;
            period = o.period;
            next = o.next;
            good = o.good;
            bad = o.bad;
            heldRow = o.heldRow;
            won = o.won;
            lost = o.lost;
            silences = o.silences;
            lead = o.lead;
        }

        /** The same settings and plan, and nothing that has happened. */
        World fresh() {
            World w = new World();
            w.set = set.clone();
            w.period = 4 * set[0];
            for (Beat b : beats) {
                w.beats.add(new Beat(b.time, b.number));
            }
            return w;
        }

        static int down(int a, int b) {
            return (int) Math.floor((double) a / b);
        }

        int half() {
            return down(period * set[1], 100);
        }

        Beat firstToCome() {
            for (Beat b : beats) {
                if (b.kind == 0) {
                    return b;
                }
            }
            return null;
        }

        void go(int until) {
            while (true) {
                Beat b = firstToCome();
                long beatAt = b == null ? Long.MAX_VALUE : 4L * b.time;
                long overAt = next == null ? Long.MAX_VALUE : next + half() + 1;
                if (Math.min(beatAt, overAt) > 4L * until) {
                    break;
                }
                if (overAt <= beatAt) {
                    windowOver();
                } else {
                    heard(b);
                }
            }
            now = until;
        }

        void heard(Beat b) {
            int at = beats.indexOf(b);
            b.lockedAhead = state == 1;
            if (next == null) {
                b.kind = 3;
                b.blow = blows.size();
                b.slip = 0;
                lead = b.number - b.blow;
                next = 4 * b.time + period;
                blows.add(new Blow(4 * b.time, at, period, state));
                return;
            }
            int e = 4 * b.time - next;
            b.off = e;
            if (e < -half()) {
                b.kind = 1;
                good = 0;
                bad++;
                lockLost();
                return;
            }
            b.kind = 2;
            b.blow = blows.size();
            b.slip = b.number - b.blow - lead;
            lead = b.number - b.blow;
            boolean isGood = Math.abs(e) <= down(period * set[4], 100);
            period += down(e * set[3], 16);
            if (period < 2 * set[0]) {
                period = 2 * set[0];
            }
            if (period > 8 * set[0]) {
                period = 8 * set[0];
            }
            int awaited = next;
            next = awaited + down(e * set[2], 16) + period;
            heldRow = 0;
            if (isGood) {
                good++;
                bad = 0;
            } else {
                good = 0;
                bad++;
            }
            if (state != 1 && good >= set[5]) {
                state = 1;
                won++;
            }
            lockLost();
            blows.add(new Blow(awaited, at, period, state));
        }

        void lockLost() {
            if (state != 0 && bad >= set[6]) {
                state = 0;
                lost++;
                good = 0;
                bad = 0;
            }
        }

        void windowOver() {
            int awaited = next;
            next = awaited + period;
            heldRow++;
            good = 0;
            bad++;
            if (state == 1) {
                state = 2;
            }
            lockLost();
            if (heldRow >= set[7]) {
                if (state != 0) {
                    lost++;
                }
                state = 0;
                good = 0;
                bad = 0;
                heldRow = 0;
                next = null;
                silences++;
            }
            blows.add(new Blow(awaited, NONE, period, state));
        }

        int beatsOf(int kind) {
            return (int) beats.stream().filter(b -> b.kind == kind).count();
        }

        int held() {
            return (int) blows.stream().filter(b -> b.beat == NONE).count();
        }

        int told() {
            return (int) beats.stream().filter(b -> b.slip != null && b.slip != 0).count();
        }

        int slipSum() {
            return beats.stream().filter(b -> b.slip != null).mapToInt(b -> b.slip).sum();
        }

        int offSum() {
            return beats.stream().filter(b -> b.kind == 2).mapToInt(b -> Math.abs(b.off)).sum();
        }

        int lastTime() {
            return beats.isEmpty() ? 0 : beats.get(beats.size() - 1).time;
        }

        int numberAhead() {
            return beats.isEmpty() ? -1 : beats.get(beats.size() - 1).number;
        }
    }

    private World w = new World();
    private final List<World> history = new ArrayList<>();
    private final World[] slots = new World[2];
    private String pad = "";

    private void change() {
        history.add(new World(w));
        if (history.size() > 6) {
            history.remove(0);
        }
    }

    int set(int setting, int value) {
        if (setting < 0 || setting > 7 || value < RANGES[setting][0] || value > RANGES[setting][1]) {
            return BAD_VALUE;
        }
        if (setting == 0 && w.next != null) {
            return NOT_POSSIBLE;
        }
        change();
        int was = w.set[setting];
        w.set[setting] = value;
        if (setting == 0) {
            w.period = 4 * value;
        }
        return was;
    }

    int beat(int after, int missed) {
        if (after < 1 || after > 9999 || missed < 0 || missed > 99) {
            return BAD_VALUE;
        }
        int time = w.lastTime() + after;
        int number = w.numberAhead() + 1 + missed;
        if (w.beats.size() == 64 || time > 100000 || number > 1000) {
            return TOO_MANY;
        }
        if (time <= w.now) {
            return NOT_POSSIBLE;
        }
        change();
        w.beats.add(new Beat(time, number));
        return w.beats.size();
    }

    int cut(int many) {
        if (many < 1 || many > 64) {
            return BAD_VALUE;
        }
        if (w.beatsOf(0) < many) {
            return NOT_POSSIBLE;
        }
        change();
        w.beats.subList(w.beats.size() - many, w.beats.size()).clear();
        return w.beats.size();
    }

    int pass(int ticks) {
        if (ticks < 1 || ticks > 10000) {
            return BAD_VALUE;
        }
        if (w.now + ticks > 120000) {
            return TOO_MANY;
        }
        change();
        w.go(w.now + ticks);
        return w.now;
    }

    int anew() {
        change();
        w = w.fresh();
        return w.beats.size();
    }

    int ofBeat(int beat, int what) {
        if (beat < 0 || beat >= w.beats.size()) {
            return NO_SUCH;
        }
        Beat b = w.beats.get(beat);
        switch (what) {
            case 0: return b.time;
            case 1: return b.number;
            case 2: return b.kind;
            case 3: return b.blow;
            case 4: return b.off == null ? NONE : 100000 + b.off;
            case 5: return b.slip == null ? NONE : 1000 + b.slip;
            default: return BAD_VALUE;
        }
    }

    int ofBlow(int blow, int what) {
        int all = w.blows.size();
        if (blow < 0 || blow >= all || all - blow > 64) {
            return NO_SUCH;
        }
        Blow b = w.blows.get(blow);
        switch (what) {
            case 0: return b.time;
            case 1: return b.beat;
            case 2: return b.period;
            case 3: return b.state;
            default: return BAD_VALUE;
        }
    }

    int count(int what) {
        if (what < 0 || what > 25) {
            return BAD_VALUE;
        }
        int[] all = {
            w.now, w.state, w.period, w.next == null ? NONE : w.next, w.blows.size(), w.held(),
            w.beats.size() - w.beatsOf(0), w.beatsOf(1), w.won, w.lost, w.told(), w.good, w.bad, w.heldRow,
            w.beats.size(), w.silences, w.set[0], w.set[1], w.set[2], w.set[3], w.set[4], w.set[5], w.set[6],
            w.set[7], pad.length(), history.size()};
        return all[what];
    }

    int slips() {
        return 100000 + w.slipSum();
    }

    int nextBlow(int blows) {
        if (blows < 1 || blows > 20) {
            return BAD_VALUE;
        }
        World f = new World(w);
        f.beats.clear();
        for (int i = 1; i < blows && f.next != null; i++) {
            f.windowOver();
        }
        return f.next == null ? NONE : f.next;
    }

    int ifHeard(int ticks) {
        if (ticks < 1 || ticks > 9999) {
            return BAD_VALUE;
        }
        World f = new World(w);
        f.beats.removeIf(b -> b.kind == 0);
        Beat asked = new Beat(f.now + ticks, f.numberAhead() + 1);
        f.beats.add(asked);
        f.go(asked.time);
        return asked.kind;
    }

    private World end(int phase, int pace, int without) {
        World f = w.fresh();
        if (without >= 0) {
            f.beats.remove(without);
        }
        f.set[2] = phase;
        f.set[3] = pace;
        f.go(f.lastTime());
        return f;
    }

    int endWith(int phase, int pace, int what) {
        if (phase < 0 || phase > 16 || pace < 0 || pace > 16 || what < 0 || what > 4) {
            return BAD_VALUE;
        }
        World f = end(phase, pace, -1);
        int locked = (int) f.beats.stream().filter(b -> b.lockedAhead).count();
        return new int[] {f.offSum(), f.beatsOf(1), f.held(), f.told(), locked}[what];
    }

    int bestNudge(int setting) {
        if (setting != 2 && setting != 3) {
            return BAD_VALUE;
        }
        if (w.beats.isEmpty()) {
            return NONE;
        }
        long best = Long.MAX_VALUE;
        for (int s = 0; s <= 16; s++) {
            World f = setting == 2 ? end(s, w.set[3], -1) : end(w.set[2], s, -1);
            best = Math.min(best, (f.told() * 10000000L + f.offSum()) * 100 + s);
        }
        return (int) (best % 100);
    }

    int worstBeat(int what) {
        if (what != 0 && what != 1) {
            return BAD_VALUE;
        }
        if (w.beats.isEmpty()) {
            return NONE;
        }
        int best = Integer.MAX_VALUE;
        for (int b = 0; b < w.beats.size(); b++) {
            best = Math.min(best, end(w.set[2], w.set[3], b).told() * 100 + b);
        }
        return what == 0 ? best % 100 : best / 100;
    }

    int put(long characters) {
        StringBuilder text = new StringBuilder();
        boolean ended = false;
        for (int shift = 0; shift < 64; shift += 8) {
            int code = (int) (characters >> shift) & 0xff;
            if (code == 0) {
                ended = true;
            } else if (ended || code < 33 || code > 126) {
                return BAD_VALUE;
            } else {
                text.insert(0, (char) code);
            }
        }
        if (text.length() == 0) {
            return BAD_VALUE;
        }
        if (pad.length() + text.length() > 80) {
            return TOO_MANY;
        }
        pad += text;
        return pad.length();
    }

    int wipe() {
        int was = pad.length();
        pad = "";
        return was;
    }

    int fault() {
        for (int i = 1; i <= pad.length(); i++) {
            Matcher m = TEXT.matcher(pad.substring(0, i));
            if (!m.matches() && !m.hitEnd()) {
                return i - 1;
            }
        }
        return TEXT.matcher(pad).matches() ? NONE : pad.length();
    }

    int plan() {
        if (fault() != NONE) {
            return BAD_TEXT;
        }
        List<Beat> more = new ArrayList<>();
        int time = w.lastTime();
        int number = w.numberAhead();
        for (String part : pad.split(";")) {
            String[] numbers = part.substring(1).split("[,*]");
            int first = Integer.parseInt(numbers[0]);
            if (part.charAt(0) == 'm') {
                number += first;
            } else if (part.charAt(0) == 'l') {
                time += first;
            } else {
                boolean even = part.charAt(0) == 'e';
                int many = even ? Integer.parseInt(numbers[1]) : numbers.length;
                for (int i = 0; i < many; i++) {
                    time += even ? first : Integer.parseInt(numbers[i]);
                    number++;
                    more.add(new Beat(time, number));
                }
            }
        }
        if (w.beats.size() + more.size() > 64
                || more.stream().anyMatch(b -> b.time > 100000 || b.number > 1000)) {
            return TOO_MANY;
        }
        if (more.stream().anyMatch(b -> b.time <= w.now)) {
            return NOT_POSSIBLE;
        }
        change();
        w.beats.addAll(more);
        pad = "";
        return w.beats.size();
    }

    int undo() {
        if (history.isEmpty()) {
            return NOT_POSSIBLE;
        }
        w = history.remove(history.size() - 1);
        return history.size();
    }

    int save(int slot) {
        if (slot < 0 || slot > 1) {
            return BAD_VALUE;
        }
        slots[slot] = new World(w);
        return w.now;
    }

    int restore(int slot) {
        if (slot < 0 || slot > 1) {
            return BAD_VALUE;
        }
        if (slots[slot] == null) {
            return NOT_POSSIBLE;
        }
        change();
        w = new World(slots[slot]);
        return w.now;
    }
}
