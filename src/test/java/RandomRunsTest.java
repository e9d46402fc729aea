/** Many runs of at most 512 calls, drawn by a fixed rule: BeatFollower answers what PlainFollower answers. */
public final class RandomRunsTest {
    private static final int CALLS = 512;
    private static final String SIGNS = "bbbeeemmll,,,;;;**0123456789x!~";

    private final Check check;
    private final int run;
    private long seed;
    private int calls;
    private final BeatFollower x = new BeatFollower();
    private final PlainFollower y = new PlainFollower();

    private RandomRunsTest(Check check, int run) {
        this.check = check;
        this.run = run;
        seed = run * 7919L + 17;
    }

    private int below(int n) {
        seed = seed * 6364136223846793005L + 1442695040888963407L;
        return (int) Math.floorMod(seed >>> 33, (long) n);
    }

    private int from(int low, int high) {
        return low + below(high - low + 1);
    }

    private void same(String call, int got, int want) {
        calls++;
        check.due("run " + run + " call " + calls + ": " + call, got, want);
    }

    private void set(int setting, int value) {
        same("set(" + setting + ", " + value + ")", x.set(setting, value), y.set(setting, value));
    }

    private void beat(int after, int missed) {
        same("beat(" + after + ", " + missed + ")", x.beat(after, missed), y.beat(after, missed));
    }

    private void pass(int ticks) {
        same("pass(" + ticks + ")", x.pass(ticks), y.pass(ticks));
    }

    private void put(long characters) {
        same("put(" + characters + ")", x.put(characters), y.put(characters));
    }

    private void count(int what) {
        same("count(" + what + ")", x.count(what), y.count(what));
    }

    private void ofBeat(int beat, int what) {
        same("ofBeat(" + beat + ", " + what + ")", x.ofBeat(beat, what), y.ofBeat(beat, what));
    }

    private void ofBlow(int blow, int what) {
        same("ofBlow(" + blow + ", " + what + ")", x.ofBlow(blow, what), y.ofBlow(blow, what));
    }

    private void anySet() {
        int[][] ranges = {{20, 400}, {5, 50}, {0, 16}, {0, 16}, {0, 40}, {1, 8}, {1, 8}, {1, 20}};
        int setting = below(8);
        int value = from(ranges[setting][0], ranges[setting][1]);
        switch (below(12)) {
            case 0: set(from(-2, 9), value); break;
            case 1: set(setting, ranges[setting][0] - below(2)); break;
            case 2: set(setting, ranges[setting][1] + below(2)); break;
            default: set(setting, value); break;
        }
    }

    /** A beat that comes about when it is awaited, or half of the time at an odd time. */
    private void likelyBeat() {
        int period = x.count(2) / 4;
        calls++;
        y.count(2);
        int wave = Math.max(1, period / from(2, 12));
        switch (below(10)) {
            case 0: beat(from(1, 9999), below(100)); break;
            case 1: beat(Math.max(1, period / 2), 0); break;
            case 2: beat(period * 2 + from(-wave, wave), from(0, 2)); break;
            case 3: beat(period * from(3, 12), from(0, 12)); break;
            case 4: beat(from(-1, 2 * period), from(-1, 3)); break;
            default: beat(Math.max(1, period + from(-wave, wave)), 0); break;
        }
    }

    private void likelyPass() {
        switch (below(12)) {
            case 0: pass(from(-1, 1)); break;
            case 1: pass(from(9990, 10001)); break;
            case 2: pass(from(1, 10000)); break;
            default: pass(from(1, 300)); break;
        }
    }

    private void putText(String text) {
        for (int i = 0; i < text.length(); i += 8) {
            put(Made.packed(text.substring(i, Math.min(text.length(), i + 8))));
        }
    }

    private String number(int low, int high) {
        switch (below(14)) {
            case 0: return "" + low;
            case 1: return "" + high;
            case 2: return below(3) == 0 ? "0" + from(low, high) : "" + from(low, high);
            case 3: return below(3) == 0 ? "" + (high + 1) : "" + from(low, high);
            case 4: return below(3) == 0 ? "" + (low - 1) : "" + from(low, high);
            default: return "" + from(low, Math.min(high, low + 120));
        }
    }

    private String part() {
        switch (below(6)) {
            case 0: return "e" + number(1, 999) + "*" + number(2, 40);
            case 1: return "m" + number(1, 99);
            case 2: return "l" + number(1, 9999);
            default:
                StringBuilder b = new StringBuilder("b" + number(1, 999));
                for (int i = below(5); i > 0; i--) {
                    b.append(',').append(number(1, 999));
                }
                return b.toString();
        }
    }

    private void someText() {
        StringBuilder text = new StringBuilder(part());
        for (int i = below(4); i > 0; i--) {
            text.append(';').append(part());
        }
        if (below(3) == 0) {
            text.setCharAt(below(text.length()), SIGNS.charAt(below(SIGNS.length())));
        }
        putText(text.toString());
        same("fault()", x.fault(), y.fault());
        if (below(4) != 0) {
            same("plan()", x.plan(), y.plan());
        }
        if (below(3) != 0) {
            same("wipe()", x.wipe(), y.wipe());
        }
    }

    private void oddPut() {
        long characters = Made.packed("" + SIGNS.charAt(below(SIGNS.length())) + SIGNS.charAt(below(SIGNS.length())));
        switch (below(5)) {
            case 0: put(characters << 8); break;
            case 1: put(characters | 1L << from(16, 63)); break;
            case 2: put(from(0, 260)); break;
            case 3: put(characters << 8 | from(30, 36)); break;
            default: put(Made.packed("" + (char) from(120, 129) + "b1")); break;
        }
    }

    private void question() {
        switch (below(12)) {
            case 0: same("slips()", x.slips(), y.slips()); break;
            case 1: case 2: {
                int k = from(0, 21);
                same("nextBlow(" + k + ")", x.nextBlow(k), y.nextBlow(k));
                break;
            }
            case 3: case 4: {
                int k = below(8) == 0 ? from(9990, 10001) : from(0, 1500);
                same("ifHeard(" + k + ")", x.ifHeard(k), y.ifHeard(k));
                break;
            }
            case 5: {
                int a = from(-1, 17);
                int b = from(-1, 17);
                int c = from(-1, 5);
                same("endWith(" + a + ", " + b + ", " + c + ")", x.endWith(a, b, c), y.endWith(a, b, c));
                break;
            }
            case 6: {
                int k = from(1, 4);
                same("bestNudge(" + k + ")", x.bestNudge(k), y.bestNudge(k));
                break;
            }
            case 7: {
                int k = from(-1, 2);
                same("worstBeat(" + k + ")", x.worstBeat(k), y.worstBeat(k));
                break;
            }
            case 8: count(from(-1, 26)); break;
            case 9: ofBlow(y.count(4) - from(-1, 66), from(-1, 4)); break;
            default: ofBeat(from(-1, y.count(14)), from(-1, 6)); break;
        }
    }

    private void backAndForth() {
        int slot = from(-1, 2);
        switch (below(6)) {
            case 0: same("save(" + slot + ")", x.save(slot), y.save(slot)); break;
            case 1: same("restore(" + slot + ")", x.restore(slot), y.restore(slot)); break;
            case 2: {
                int k = below(3) == 0 ? from(0, 65) : from(1, 4);
                same("cut(" + k + ")", x.cut(k), y.cut(k));
                break;
            }
            case 3:
                if (below(3) == 0) {
                    same("anew()", x.anew(), y.anew());
                }
                break;
            default: same("undo()", x.undo(), y.undo()); break;
        }
    }

    /** Asks everything that can be asked of beats, blows and counts, up to the 512th call. */
    private void sweep() {
        for (int i = 0; i < 26 && calls < CALLS; i++) {
            count(i);
        }
        for (int b = y.count(14) - 1; b >= 0; b--) {
            for (int k = 0; k < 6 && calls < CALLS; k++) {
                ofBeat(b, k);
            }
        }
        for (int b = y.count(4) - 1; b >= 0; b--) {
            for (int k = 0; k < 4 && calls < CALLS; k++) {
                ofBlow(b, k);
            }
        }
    }

    private void play() {
        for (int i = run % 3; i > 0; i--) {
            anySet();
        }
        int actions = from(40, 420);
        while (calls < actions) {
            switch (below(20)) {
                case 0: anySet(); break;
                case 1: case 2: likelyPass(); break;
                case 3: someText(); break;
                case 4: oddPut(); break;
                case 5: case 6: backAndForth(); break;
                case 7: case 8: case 9: case 10: question(); break;
                case 11: likelyBeat(); pass(Math.max(1, y.count(2) / 4)); break;
                default: likelyBeat(); break;
            }
        }
        sweep();
    }

    public static void main(String[] args) {
        int runs = args.length > 0 ? Integer.parseInt(args[0]) : 3000;
        Check check = new Check("RandomRunsTest");
        for (int run = 0; run < runs; run++) {
            new RandomRunsTest(check, run).play();
        }
        check.close();
    }
}
