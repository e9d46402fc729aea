/** A drummer who follows a beat that wavers; what it promises stands in ../shared/DOC.md. */
public final class BeatFollower {
    public static final int NO_SUCH = -1, BAD_VALUE = -2, BAD_TEXT = -3, TOO_MANY = -4, NOT_POSSIBLE = -5, NONE = -6;
    public static final int BASE = 0, WINDOW = 1, PHASE = 2, PACE = 3, GOOD = 4, WIN = 5, LOSE = 6, HOLD = 7;
    public static final int SEEKING = 0, LOCKED = 1, HOLDING = 2;

    private static final int SETTINGS = 8;
    private static final int[] LOWEST = {20, 5, 0, 0, 0, 1, 1, 1};
    private static final int[] HIGHEST = {400, 50, 16, 16, 40, 8, 8, 20};
    private static final int[] FIRST = {100, 30, 8, 4, 8, 3, 3, 6};

    private static final int MOST_BEATS = 64, LATEST_BEAT = 100000, HIGHEST_NUMBER = 1000;
    private static final int LATEST_TIME = 120000;
    private static final int STRONGEST = 16;
    private static final int KEPT_BLOWS = 64;
    private static final int KEPT_CHANGES = 6;
    private static final int SLOTS = 2;
    private static final int PAD_ROOM = 80;

    /* What became of a beat. */
    private static final int TO_COME = 0, PASSED_OVER = 1, TAKEN = 2, STRUCK_WITH = 3;

    /* Answers that may be below 0 are told above these. */
    private static final int OFF_ZERO = 100000, SLIP_ZERO = 1000, SLIP_SUM_ZERO = 100000;

    private static final int QUARTERS = 4;
    /* Later than every time that a run can reach. */
    private static final int NEVER = 1000000;
    /* More slips, and more quarters in a sum, than a plan can tell. */
    private static final int MORE_THAN_ANY = 1000000;
    /* 64 beats, and ahead of each and behind the last at most 20 held blows up to the silence. */
    private static final int MOST_HAPPENINGS = 2000;

    private final Scene scene;
    private final Scene trial;
    private final History history;
    private final Scene[] slots;
    private final boolean[] saved;
    private final Pad pad;
    private final Reader reader;

    public BeatFollower() {
        scene = new Scene();
        trial = new Scene();
        history = new History();
        slots = new Scene[SLOTS];
        for (int i = 0; i < SLOTS; i++) {
            slots[i] = new Scene();
        }
        saved = new boolean[SLOTS];
        pad = new Pad();
        reader = new Reader();
    }

    // ---- setting up

    public int set(int setting, int value) {
        if (!isSetting(setting) || value < LOWEST[setting] || value > HIGHEST[setting]) {
            return BAD_VALUE;
        }
        if (setting == BASE && scene.drummer.nextBlow != NONE) {
            return NOT_POSSIBLE;
        }
        history.record(scene);
        int previous = scene.settings[setting];
        scene.settings[setting] = value;
        if (setting == BASE) {
            scene.drummer.period = scene.firstPeriod();
        }
        return previous;
    }

    public int beat(int after, int missed) {
        if (!isIn(after, 1, 9999) || !isIn(missed, 0, 99)) {
            return BAD_VALUE;
        }
        int time = scene.plan.lastTime() + after;
        int number = scene.plan.nextNumber() + missed;
        if (!scene.plan.canHold(time, number)) {
            return TOO_MANY;
        }
        if (time <= scene.time) {
            return NOT_POSSIBLE;
        }
        history.record(scene);
        scene.plan.append(time, number);
        return scene.plan.many;
    }

    public int cut(int many) {
        if (!isIn(many, 1, MOST_BEATS)) {
            return BAD_VALUE;
        }
        if (many > scene.plan.many - scene.tally.heard) {
            return NOT_POSSIBLE;
        }
        history.record(scene);
        scene.plan.many -= many;
        return scene.plan.many;
    }

    public int pass(int ticks) {
        if (!isIn(ticks, 1, 10000)) {
            return BAD_VALUE;
        }
        if (scene.time + ticks > LATEST_TIME) {
            return TOO_MANY;
        }
        history.record(scene);
        scene.runTo(scene.time + ticks);
        return scene.time;
    }

    public int anew() {
        history.record(scene);
        scene.begin();
        return scene.plan.many;
    }

    // ---- what there is

    public int ofBeat(int beat, int what) {
        if (!scene.plan.has(beat)) {
            return NO_SUCH;
        }
        switch (what) {
            case 0: return scene.plan.timeOf(beat);
            case 1: return scene.plan.numberOf(beat);
            case 2: return scene.isHeard(beat) ? scene.fates.kindOf(beat) : TO_COME;
            case 3: return scene.isHeard(beat) ? scene.fates.blowOf(beat) : NONE;
            case 4: return scene.isHeard(beat) ? scene.fates.offOf(beat) : NONE;
            case 5: return scene.isHeard(beat) ? scene.fates.slipOf(beat) : NONE;
            default: return BAD_VALUE;
        }
    }

    public int ofBlow(int blow, int what) {
        if (!scene.blows.has(blow)) {
            return NO_SUCH;
        }
        int row = scene.blows.rowOf(blow);
        switch (what) {
            case 0: return scene.blows.times[row];
            case 1: return scene.blows.beats[row];
            case 2: return scene.blows.periods[row];
            case 3: return scene.blows.states[row];
            default: return BAD_VALUE;
        }
    }

    public int count(int what) {
        if (isIn(what, 16, 23)) {
            return scene.settings[what - 16];
        }
        switch (what) {
            case 0: return scene.time;
            case 1: return scene.drummer.state;
            case 2: return scene.drummer.period;
            case 3: return scene.drummer.nextBlow;
            case 4: return scene.blows.many;
            case 5: return scene.tally.held;
            case 6: return scene.tally.heard;
            case 7: return scene.tally.passedOver;
            case 8: return scene.tally.locksWon;
            case 9: return scene.tally.locksLost;
            case 10: return scene.tally.slipsTold;
            case 11: return scene.drummer.goodInRow;
            case 12: return scene.drummer.badInRow;
            case 13: return scene.drummer.heldInRow;
            case 14: return scene.plan.many;
            case 15: return scene.tally.silences;
            case 24: return pad.length;
            case 25: return history.many;
            default: return BAD_VALUE;
        }
    }

    public int slips() {
        return SLIP_SUM_ZERO + scene.tally.slipSum;
    }

    // ---- what if; nothing changes

    public int nextBlow(int blows) {
        if (!isIn(blows, 1, 20)) {
            return BAD_VALUE;
        }
        Drummer drummer = scene.drummer;
        if (drummer.nextBlow == NONE) {
            return NONE;
        }
        int heldAhead = blows - 1;
        if (heldAhead > 0 && drummer.heldInRow + heldAhead >= scene.settings[HOLD]) {
            return NONE;
        }
        return drummer.nextBlow + heldAhead * drummer.period;
    }

    public int ifHeard(int ticks) {
        if (!isIn(ticks, 1, 9999)) {
            return BAD_VALUE;
        }
        trial.copyFrom(scene);
        trial.plan.many = trial.tally.heard;
        trial.runTo(scene.time + ticks);
        return trial.fateAt(QUARTERS * trial.time);
    }

    public int endWith(int phase, int pace, int what) {
        if (!isIn(phase, 0, STRONGEST) || !isIn(pace, 0, STRONGEST) || !isIn(what, 0, 4)) {
            return BAD_VALUE;
        }
        trial.plan.copyFrom(scene.plan);
        playTrial(phase, pace);
        switch (what) {
            case 0: return trial.tally.offSum;
            case 1: return trial.tally.passedOver;
            case 2: return trial.tally.held;
            case 3: return trial.tally.slipsTold;
            default: return trial.tally.heardLocked;
        }
    }

    public int bestNudge(int setting) {
        if (setting != PHASE && setting != PACE) {
            return BAD_VALUE;
        }
        if (scene.plan.many == 0) {
            return NONE;
        }
        trial.plan.copyFrom(scene.plan);
        int best = 0, fewest = MORE_THAN_ANY, least = MORE_THAN_ANY;
        for (int strength = 0; strength <= STRONGEST; strength++) {
            playTrial(setting == PHASE ? strength : scene.settings[PHASE],
                    setting == PACE ? strength : scene.settings[PACE]);
            int told = trial.tally.slipsTold;
            int off = trial.tally.offSum;
            if (told < fewest || (told == fewest && off < least)) {
                best = strength;
                fewest = told;
                least = off;
            }
        }
        return best;
    }

    public int worstBeat(int what) {
        if (!isIn(what, 0, 1)) {
            return BAD_VALUE;
        }
        if (scene.plan.many == 0) {
            return NONE;
        }
        int worst = 0, fewest = MORE_THAN_ANY;
        for (int beat = 0; beat < scene.plan.many; beat++) {
            trial.plan.copyWithout(scene.plan, beat);
            playTrial(scene.settings[PHASE], scene.settings[PACE]);
            if (trial.tally.slipsTold < fewest) {
                worst = beat;
                fewest = trial.tally.slipsTold;
            }
        }
        return what == 0 ? worst : fewest;
    }

    // ---- texts

    public int put(long characters) {
        int many = charactersIn(characters);
        if (many == 0) {
            return BAD_VALUE;
        }
        if (pad.length + many > PAD_ROOM) {
            return TOO_MANY;
        }
        for (int i = many - 1; i >= 0; i--) {
            pad.append((char) ((characters >>> (8 * i)) & 255));
        }
        return pad.length;
    }

    public int wipe() {
        int length = pad.length;
        pad.length = 0;
        return length;
    }

    public int fault() {
        reader.read(pad);
        return reader.fault;
    }

    public int plan() {
        reader.read(pad);
        if (reader.fault != NONE) {
            return BAD_TEXT;
        }
        trial.plan.copyFrom(scene.plan);
        if (!trial.plan.appendAll(reader)) {
            return TOO_MANY;
        }
        int firstOfThem = scene.plan.many;
        if (trial.plan.has(firstOfThem) && trial.plan.timeOf(firstOfThem) <= scene.time) {
            return NOT_POSSIBLE;
        }
        history.record(scene);
        scene.plan.copyFrom(trial.plan);
        pad.length = 0;
        return scene.plan.many;
    }

    // ---- undo, saving

    public int undo() {
        if (history.many == 0) {
            return NOT_POSSIBLE;
        }
        history.takeBack(scene);
        return history.many;
    }

    public int save(int slot) {
        if (!isIn(slot, 0, SLOTS - 1)) {
            return BAD_VALUE;
        }
        slots[slot].copyFrom(scene);
        saved[slot] = true;
        return scene.time;
    }

    public int restore(int slot) {
        if (!isIn(slot, 0, SLOTS - 1)) {
            return BAD_VALUE;
        }
        if (!saved[slot]) {
            return NOT_POSSIBLE;
        }
        history.record(scene);
        scene.copyFrom(slots[slot]);
        return scene.time;
    }

    // ---- helpers

    private static boolean isIn(int value, int lowest, int highest) {
        return value >= lowest && value <= highest;
    }

    private static boolean isSetting(int setting) {
        return isIn(setting, 0, SETTINGS - 1);
    }

    /** How many characters a number gives; 0 if it cannot be read as characters. */
    private static int charactersIn(long characters) {
        long rest = characters;
        int many = 0;
        for (int i = 0; i < 8 && rest != 0; i++) {
            // 8 bits that are 0 below others that are not stand outside 33 to 126, too
            if (!isIn((int) (rest & 255), 33, 126)) {
                return 0;
            }
            many++;
            rest >>>= 8;
        }
        return many;
    }

    /** Plays the trial's plan from the beginning on, with the settings of now but for the nudges. */
    private void playTrial(int phase, int pace) {
        System.arraycopy(scene.settings, 0, trial.settings, 0, SETTINGS);
        trial.settings[PHASE] = phase;
        trial.settings[PACE] = pace;
        trial.begin();
        trial.runTo(trial.plan.lastTime());
    }

    /** Everything that undo and the slots bring back. */
    private static final class Scene {
        final int[] settings = new int[SETTINGS];
        final Plan plan = new Plan();
        final Fates fates = new Fates();
        final Blows blows = new Blows();
        final Drummer drummer = new Drummer();
        final Tally tally = new Tally();
        int time;

        Scene() {
            System.arraycopy(FIRST, 0, settings, 0, SETTINGS);
            begin();
        }

        /** Puts everything as it is at first, but for the settings and the plan. */
        void begin() {
            time = 0;
            blows.many = 0;
            tally.clear();
            drummer.begin(firstPeriod());
        }

        void copyFrom(Scene other) {
            System.arraycopy(other.settings, 0, settings, 0, SETTINGS);
            plan.copyFrom(other.plan);
            fates.copyFrom(other.fates);
            blows.copyFrom(other.blows);
            drummer.copyFrom(other.drummer);
            tally.copyFrom(other.tally);
            time = other.time;
        }

        int firstPeriod() {
            return QUARTERS * settings[BASE];
        }

        boolean isHeard(int beat) {
            return beat < tally.heard;
        }

        /** Lets happen all that happens up to a time, with it. */
        void runTo(int until) {
            for (int i = 0; i < MOST_HAPPENINGS; i++) {
                int beatTime = tally.heard < plan.many ? plan.timeOf(tally.heard) : NEVER;
                if (isWindowOver(QUARTERS * Math.min(beatTime, until))) {
                    holdBlow();
                } else if (beatTime <= until) {
                    hearBeat(tally.heard);
                } else {
                    break;
                }
            }
            time = until;
        }

        private boolean isWindowOver(int quarters) {
            return drummer.nextBlow != NONE && drummer.nextBlow + halfWindow() + 1 <= quarters;
        }

        private int halfWindow() {
            return Math.floorDiv(drummer.period * settings[WINDOW], 100);
        }

        /** What becomes of a beat that is heard at a time, in quarters, with the drummer as it is. */
        int fateAt(int quarters) {
            if (drummer.nextBlow == NONE) {
                return STRUCK_WITH;
            }
            return quarters - drummer.nextBlow < -halfWindow() ? PASSED_OVER : TAKEN;
        }

        private void hearBeat(int beat) {
            int quarters = QUARTERS * plan.timeOf(beat);
            if (drummer.state == LOCKED) {
                tally.heardLocked++;
            }
            tally.heard++;
            switch (fateAt(quarters)) {
                case STRUCK_WITH:
                    strikeWithBeat(beat, quarters);
                    break;
                case PASSED_OVER:
                    passOver(beat, quarters - drummer.nextBlow);
                    break;
                default:
                    takeBeat(beat, quarters - drummer.nextBlow);
                    break;
            }
        }

        private void strikeWithBeat(int beat, int quarters) {
            drummer.nextBlow = quarters + drummer.period;
            drummer.lead = plan.numberOf(beat) - blows.many;
            fates.note(beat, STRUCK_WITH, blows.many, NONE, SLIP_ZERO);
            blows.append(quarters, beat, drummer.period, drummer.state);
        }

        private void passOver(int beat, int off) {
            tally.passedOver++;
            fates.note(beat, PASSED_OVER, NONE, OFF_ZERO + off, NONE);
            judge(false);
        }

        private void takeBeat(int beat, int off) {
            int awaited = drummer.nextBlow;
            boolean good = Math.abs(off) <= Math.floorDiv(drummer.period * settings[GOOD], 100);
            nudge(off);
            drummer.heldInRow = 0;
            tally.offSum += Math.abs(off);
            int lead = plan.numberOf(beat) - blows.many;
            int slip = lead - drummer.lead;
            drummer.lead = lead;
            tally.addSlip(slip);
            fates.note(beat, TAKEN, blows.many, OFF_ZERO + off, SLIP_ZERO + slip);
            judge(good);
            blows.append(awaited, beat, drummer.period, drummer.state);
        }

        /** Moves the period and the next blow by what a beat was off. */
        private void nudge(int off) {
            int period = drummer.period + Math.floorDiv(off * settings[PACE], 16);
            drummer.period = Math.max(2 * settings[BASE], Math.min(8 * settings[BASE], period));
            drummer.nextBlow += Math.floorDiv(off * settings[PHASE], 16) + drummer.period;
        }

        private void holdBlow() {
            int awaited = drummer.nextBlow;
            drummer.nextBlow = awaited + drummer.period;
            drummer.heldInRow++;
            tally.held++;
            if (drummer.state == LOCKED) {
                drummer.state = HOLDING;
            }
            judge(false);
            if (drummer.heldInRow >= settings[HOLD]) {
                fallSilent();
            }
            blows.append(awaited, NONE, drummer.period, drummer.state);
        }

        private void judge(boolean good) {
            drummer.goodInRow = good ? drummer.goodInRow + 1 : 0;
            drummer.badInRow = good ? 0 : drummer.badInRow + 1;
            // only a beat that was taken is good, so that nothing else wins the lock
            if (good && drummer.state != LOCKED && drummer.goodInRow >= settings[WIN]) {
                drummer.state = LOCKED;
                tally.locksWon++;
            }
            if (drummer.state != SEEKING && drummer.badInRow >= settings[LOSE]) {
                loseLock();
            }
        }

        private void loseLock() {
            drummer.state = SEEKING;
            drummer.goodInRow = 0;
            drummer.badInRow = 0;
            tally.locksLost++;
        }

        private void fallSilent() {
            tally.silences++;
            if (drummer.state != SEEKING) {
                loseLock();
            }
            drummer.goodInRow = 0;
            drummer.badInRow = 0;
            drummer.heldInRow = 0;
            drummer.nextBlow = NONE;
        }
    }

    /** The beats that are followed: their times and their true numbers. */
    private static final class Plan {
        private final int[] times = new int[MOST_BEATS];
        private final int[] numbers = new int[MOST_BEATS];
        int many;

        boolean has(int beat) {
            return beat >= 0 && beat < many && beat < MOST_BEATS;
        }

        int timeOf(int beat) {
            return has(beat) ? times[beat] : 0;
        }

        int numberOf(int beat) {
            return has(beat) ? numbers[beat] : -1;
        }

        /** The time that the next beat is laid behind. */
        int lastTime() {
            return timeOf(many - 1);
        }

        /** The true number of the next beat, if none is missed ahead of it. */
        int nextNumber() {
            return numberOf(many - 1) + 1;
        }

        boolean canHold(int time, int number) {
            return many < MOST_BEATS && time <= LATEST_BEAT && number <= HIGHEST_NUMBER;
        }

        void append(int time, int number) {
            if (many >= 0 && many < MOST_BEATS) {
                times[many] = time;
                numbers[many] = number;
                many++;
            }
        }

        /** Appends the beats that were read; false as soon as one cannot be held. */
        boolean appendAll(Reader reader) {
            if (reader.many > MOST_BEATS) {
                return false;
            }
            for (int i = 0; i < reader.many; i++) {
                int time = lastTime() + reader.gaps[i];
                int number = nextNumber() + reader.misses[i];
                if (!canHold(time, number)) {
                    return false;
                }
                append(time, number);
            }
            return true;
        }

        void copyFrom(Plan other) {
            System.arraycopy(other.times, 0, times, 0, MOST_BEATS);
            System.arraycopy(other.numbers, 0, numbers, 0, MOST_BEATS);
            many = other.many;
        }

        void copyWithout(Plan other, int beat) {
            many = 0;
            for (int i = 0; i < other.many; i++) {
                if (i != beat) {
                    append(other.timeOf(i), other.numberOf(i));
                }
            }
        }
    }

    /** What became of the beats that were heard, as it is told. */
    private static final class Fates {
        private final int[] kinds = new int[MOST_BEATS];
        private final int[] blows = new int[MOST_BEATS];
        private final int[] offs = new int[MOST_BEATS];
        private final int[] slips = new int[MOST_BEATS];

        private static boolean hasRow(int beat) {
            return beat >= 0 && beat < MOST_BEATS;
        }

        void note(int beat, int kind, int blow, int off, int slip) {
            if (hasRow(beat)) {
                kinds[beat] = kind;
                blows[beat] = blow;
                offs[beat] = off;
                slips[beat] = slip;
            }
        }

        int kindOf(int beat) {
            return hasRow(beat) ? kinds[beat] : TO_COME;
        }

        int blowOf(int beat) {
            return hasRow(beat) ? blows[beat] : NONE;
        }

        int offOf(int beat) {
            return hasRow(beat) ? offs[beat] : NONE;
        }

        int slipOf(int beat) {
            return hasRow(beat) ? slips[beat] : NONE;
        }

        void copyFrom(Fates other) {
            System.arraycopy(other.kinds, 0, kinds, 0, MOST_BEATS);
            System.arraycopy(other.blows, 0, blows, 0, MOST_BEATS);
            System.arraycopy(other.offs, 0, offs, 0, MOST_BEATS);
            System.arraycopy(other.slips, 0, slips, 0, MOST_BEATS);
        }
    }

    /** The latest blows that were struck; a later one takes the row of one that is no longer kept. */
    private static final class Blows {
        final int[] times = new int[KEPT_BLOWS];
        final int[] beats = new int[KEPT_BLOWS];
        final int[] periods = new int[KEPT_BLOWS];
        final int[] states = new int[KEPT_BLOWS];
        int many;

        boolean has(int blow) {
            return blow >= 0 && blow < many && blow >= many - KEPT_BLOWS;
        }

        int rowOf(int blow) {
            // the rows are a power of 2, so that this is the remainder, and a row whatever the number is
            return blow & (KEPT_BLOWS - 1);
        }

        void append(int time, int beat, int period, int state) {
            int row = rowOf(many);
            times[row] = time;
            beats[row] = beat;
            periods[row] = period;
            states[row] = state;
            many++;
        }

        void copyFrom(Blows other) {
            System.arraycopy(other.times, 0, times, 0, KEPT_BLOWS);
            System.arraycopy(other.beats, 0, beats, 0, KEPT_BLOWS);
            System.arraycopy(other.periods, 0, periods, 0, KEPT_BLOWS);
            System.arraycopy(other.states, 0, states, 0, KEPT_BLOWS);
            many = other.many;
        }
    }

    /** How the drummer stands; its period and the time of its next blow are in quarters. */
    private static final class Drummer {
        int state;
        int period;
        int nextBlow;
        int goodInRow;
        int badInRow;
        int heldInRow;
        /* Of the latest beat that has a blow: what the slip of the next one is counted from. */
        int lead;

        void begin(int firstPeriod) {
            state = SEEKING;
            period = firstPeriod;
            nextBlow = NONE;
            goodInRow = 0;
            badInRow = 0;
            heldInRow = 0;
            lead = 0;
        }

        void copyFrom(Drummer other) {
            state = other.state;
            period = other.period;
            nextBlow = other.nextBlow;
            goodInRow = other.goodInRow;
            badInRow = other.badInRow;
            heldInRow = other.heldInRow;
            lead = other.lead;
        }
    }

    /** What was counted since the beginning. */
    private static final class Tally {
        int heard;
        int passedOver;
        int held;
        int locksWon;
        int locksLost;
        int silences;
        int slipsTold;
        int slipSum;
        int offSum;
        int heardLocked;

        void addSlip(int slip) {
            slipSum += slip;
            if (slip != 0) {
                slipsTold++;
            }
        }

        void clear() {
            heard = 0;
            passedOver = 0;
            held = 0;
            locksWon = 0;
            locksLost = 0;
            silences = 0;
            slipsTold = 0;
            slipSum = 0;
            offSum = 0;
            heardLocked = 0;
        }

        void copyFrom(Tally other) {
            heard = other.heard;
            passedOver = other.passedOver;
            held = other.held;
            locksWon = other.locksWon;
            locksLost = other.locksLost;
            silences = other.silences;
            slipsTold = other.slipsTold;
            slipSum = other.slipSum;
            offSum = other.offSum;
            heardLocked = other.heardLocked;
        }
    }

    /** The scenes ahead of the latest changes; the oldest one gives its row to a newer one. */
    private static final class History {
        private final Scene[] scenes = new Scene[KEPT_CHANGES];
        private int next;
        int many;

        History() {
            for (int i = 0; i < KEPT_CHANGES; i++) {
                scenes[i] = new Scene();
            }
        }

        void record(Scene scene) {
            scenes[Math.floorMod(next, KEPT_CHANGES)].copyFrom(scene);
            next++;
            many = Math.min(many + 1, KEPT_CHANGES);
        }

        void takeBack(Scene scene) {
            next--;
            many--;
            scene.copyFrom(scenes[Math.floorMod(next, KEPT_CHANGES)]);
        }
    }

    /** The text that is written before it is read as beats. */
    private static final class Pad {
        private final char[] signs = new char[PAD_ROOM];
        int length;

        void append(char sign) {
            if (length >= 0 && length < PAD_ROOM) {
                signs[length] = sign;
                length++;
            }
        }

        /** The sign at a place; behind the end 0, which no text holds. */
        int signAt(int place) {
            return place >= 0 && place < length && place < PAD_ROOM ? signs[place] : 0;
        }

        /** The digit at a place; -1 if none stands there. */
        int digitAt(int place) {
            int sign = signAt(place);
            return sign >= '0' && sign <= '9' ? sign - '0' : -1;
        }
    }

    /** Reads a pad from left to right, up to its fault; keeps the beats that it tells. */
    private static final class Reader {
        final int[] gaps = new int[MOST_BEATS];
        final int[] misses = new int[MOST_BEATS];
        /* Goes on counting above what the rows hold. */
        int many;
        int fault;
        private int place;
        private int laid;
        private int missed;

        void read(Pad pad) {
            many = 0;
            fault = NONE;
            place = 0;
            laid = 0;
            missed = 0;
            readPart(pad);
            for (int i = 0; i < PAD_ROOM && fault == NONE && place < pad.length; i++) {
                readSign(pad, ';');
                readPart(pad);
            }
        }

        private void readPart(Pad pad) {
            if (fault != NONE) {
                return;
            }
            int sign = pad.signAt(place);
            place++;
            switch (sign) {
                case 'b':
                    readBeats(pad);
                    break;
                case 'e':
                    readEvenBeats(pad);
                    break;
                case 'm':
                    missed += readNumber(pad, 1, 99);
                    break;
                case 'l':
                    laid += readNumber(pad, 1, 9999);
                    break;
                default:
                    fault = place - 1;
                    break;
            }
        }

        private void readBeats(Pad pad) {
            addBeats(readNumber(pad, 1, 999), 1);
            for (int i = 0; i < PAD_ROOM && fault == NONE && pad.signAt(place) == ','; i++) {
                place++;
                addBeats(readNumber(pad, 1, 999), 1);
            }
        }

        private void readEvenBeats(Pad pad) {
            int gap = readNumber(pad, 1, 999);
            readSign(pad, '*');
            addBeats(gap, readNumber(pad, 2, 40));
        }

        private void readSign(Pad pad, char sign) {
            if (fault != NONE) {
                return;
            }
            if (pad.signAt(place) == sign) {
                place++;
            } else {
                fault = place;
            }
        }

        /** Reads a number in its range; 0 if there is a fault. */
        private int readNumber(Pad pad, int lowest, int highest) {
            if (fault != NONE) {
                return 0;
            }
            int number = pad.digitAt(place);
            if (number < 0) {
                fault = place;
                return 0;
            }
            place++;
            for (int i = 0; i < PAD_ROOM && pad.digitAt(place) >= 0; i++) {
                int longer = number * 10 + pad.digitAt(place);
                if (number == 0 || longer > highest) {
                    fault = place;
                    return 0;
                }
                number = longer;
                place++;
            }
            if (number < lowest) {
                fault = place;
                return 0;
            }
            return number;
        }

        /** Adds beats, the first of them behind all that was laid and missed up to here. */
        private void addBeats(int gap, int times) {
            for (int i = 0; i < times; i++) {
                if (many >= 0 && many < MOST_BEATS) {
                    gaps[many] = gap + laid;
                    misses[many] = missed;
                }
                many++;
                laid = 0;
                missed = 0;
            }
        }
    }
}
