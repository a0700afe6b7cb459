import java.util.Random;

/** Many runs of calls by drawn numbers: the class answers as the Model does, and nothing is ever thrown. */
public final class ModelTests {
    private static final int RUNS = 240;
    private static final int CALLS = 512;
    private static final String[] BITS = {
        "hour", "wall", "more", "heap", "gate", "passes", "0", "1", "2", "7", "12", "99", "9999", "30"};
    private static final String[] JOINTS = {" + ", "-", "*", " < ", "=", " and ", " or "};
    private static final int[] ODD = {-1, -2, 6, 10, 12, 24, 40, 41, 48, 49, 99, 100, 999, 1000, Integer.MAX_VALUE, Integer.MIN_VALUE};
    private static final int[] GOALS = {0, 1, 10, 11};

    private final Random random;
    private final ThrownBack x = new ThrownBack();
    private final Model m = new Model();

    private ModelTests(long seed) {
        random = new Random(seed);
    }

    public static void main(String[] args) {
        for (int run = 0; run < RUNS; run++) {
            new ModelTests(run).calls(run);
        }
        Check.end("ModelTests");
    }

    private void calls(int run) {
        int owners = random.nextInt(13);
        for (int i = 0; i < CALLS; i++) {
            int what = i < owners ? 6 : i < owners + 4 ? 9 : random.nextInt(41);
            oneCall(run, i, what);
        }
    }

    /** Mostly 0 .. most; now and then a number that is not. */
    private int upTo(int most) {
        return random.nextInt(40) == 0 ? ODD[random.nextInt(ODD.length)] : random.nextInt(most + 1);
    }

    private int gate() {
        return upTo(Math.max(0, m.count(0) - 1));
    }

    private int n() {
        return random.nextInt(4) == 0 ? upTo(48) : upTo(12);
    }

    private int goal() {
        return random.nextInt(20) == 0 ? upTo(20) : GOALS[random.nextInt(4)];
    }

    private void due(int run, int i, String call, int[] v, long got, long want) {
        StringBuilder told = new StringBuilder();
        told.append("run ").append(run).append(", call ").append(i).append(", ").append(call);
        Check.due(got == want ? call : told.append(java.util.Arrays.toString(v)).toString(), got, want);
    }

    private void oneCall(int run, int i, int what) {
        int[] v = new int[6];
        switch (what) {
            case 0: v[0] = upTo(6); due(run, i, "count", v, x.count(v[0]), m.count(v[0])); break;
            case 1: v[0] = upTo(1); v[1] = v[0] == 0 ? upTo(99) : upTo(60);
                due(run, i, "set", v, x.set(v[0], v[1]), m.set(v[0], v[1])); break;
            case 2: feed(run, i); break;
            case 3: case 4: aText(run, i); break;
            case 5: v[0] = upTo(m.count(4) - 1); due(run, i, "force", v, x.force(v[0]), m.force(v[0])); break;
            case 6: v[0] = upTo(59); v[1] = upTo(23);
                due(run, i, "owner", v, x.owner(v[0], v[1]), m.owner(v[0], v[1])); break;
            case 7: case 8: put(run, i, v); break;
            case 9: v[0] = upTo(23); v[1] = upTo(1);
                due(run, i, "pass", v, x.pass(v[0], v[1]), m.pass(v[0], v[1])); break;
            case 10: v[0] = gate(); v[1] = upTo(7);
                due(run, i, "told", v, x.told(v[0], v[1]), m.told(v[0], v[1])); break;
            case 11: v[0] = upTo(5); v[1] = upTo(23); v[2] = upTo(1);
                due(run, i, "move", v, x.move(v[0], v[1], v[2]), m.move(v[0], v[1], v[2])); break;
            case 12: v[0] = upTo(5); due(run, i, "comes", v, x.comes(v[0]), m.comes(v[0])); break;
            case 13: case 14: case 15: case 16: due(run, i, "live", v, x.live(), m.live()); break;
            case 17: v[0] = upTo(2); v[1] = gate(); v[2] = upTo(999);
                due(run, i, "asks", v, x.asks(v[0], v[1], v[2]), m.asks(v[0], v[1], v[2])); break;
            default: laterCall(run, i, what, v); break;
        }
    }

    private void put(int run, int i, int[] v) {
        int[] most = {60, 60, 9, 23, 1};
        v[0] = gate();
        v[1] = upTo(4);
        v[2] = upTo(v[1] >= 0 && v[1] < 5 && random.nextInt(4) > 0 ? most[v[1]] : 999);
        due(run, i, "put", v, x.put(v[0], v[1], v[2]), m.put(v[0], v[1], v[2]));
    }

    private void laterCall(int run, int i, int what, int[] v) {
        switch (what) {
            case 18: case 19: v[0] = n(); v[1] = random.nextInt(3) == 0 ? upTo(4) : 10 + 20 * random.nextInt(4) + upTo(12);
                due(run, i, "run", v, x.run(v[0], v[1]), m.run(v[0], v[1])); break;
            case 20: v[0] = gate(); v[1] = n(); v[2] = goal();
                due(run, i, "when", v, x.when(v[0], v[1], v[2]), m.when(v[0], v[1], v[2])); break;
            case 21: v[0] = gate(); v[1] = n(); v[2] = upTo(40);
                due(run, i, "dig", v, x.dig(v[0], v[1], v[2]), m.dig(v[0], v[1], v[2])); break;
            case 22: v[0] = n(); v[1] = upTo(1);
                due(run, i, "blade", v, x.blade(v[0], v[1]), m.blade(v[0], v[1])); break;
            case 23: v[0] = n(); v[1] = goal();
                due(run, i, "sides", v, x.sides(v[0], v[1]), m.sides(v[0], v[1])); break;
            case 24: v[0] = gate(); v[1] = n(); v[2] = upTo(1);
                due(run, i, "gains", v, x.gains(v[0], v[1], v[2]), m.gains(v[0], v[1], v[2])); break;
            case 25: v[0] = gate(); v[1] = n(); v[2] = upTo(1);
                due(run, i, "helps", v, x.helps(v[0], v[1], v[2]), m.helps(v[0], v[1], v[2])); break;
            case 26: v[0] = upTo(3); v[1] = n();
                due(run, i, "judge", v, x.judge(v[0], v[1]), m.judge(v[0], v[1])); break;
            case 27: case 28: v[0] = upTo(3); v[1] = n(); v[2] = gate(); v[3] = upTo(2);
                due(run, i, "kinds", v, x.kinds(v[0], v[1], v[2], v[3]), m.kinds(v[0], v[1], v[2], v[3])); break;
            case 29: v[0] = upTo(3); v[1] = upTo(1);
                due(run, i, "hours", v, x.hours(v[0], v[1]), m.hours(v[0], v[1])); break;
            case 30: v[0] = upTo(3); v[1] = n();
                due(run, i, "laws", v, x.laws(v[0], v[1]), m.laws(v[0], v[1])); break;
            case 31: case 32: v[0] = upTo(3); v[1] = n();
                due(run, i, "film", v, x.film(v[0], v[1]), m.film(v[0], v[1])); break;
            case 33: v[0] = upTo(99999); v[1] = n(); v[2] = 10 * upTo(20) + upTo(4);
                due(run, i, "drawn", v, x.drawn(v[0], v[1], v[2]), m.drawn(v[0], v[1], v[2])); break;
            case 34: v[0] = upTo(99999); v[1] = 100 * n() + 1 + upTo(9); v[2] = gate(); v[3] = upTo(30); v[4] = upTo(1);
                due(run, i, "odds", v, x.odds(v[0], v[1], v[2], v[3], v[4]), m.odds(v[0], v[1], v[2], v[3], v[4])); break;
            case 35: due(run, i, "image", v, x.image(), m.image()); break;
            case 36: maybeBack(run, i); break;
            default: hostCall(run, i, what, v); break;
        }
    }

    /** Only now and then, so that the roads grow. */
    private void maybeBack(int run, int i) {
        if (random.nextInt(3) == 0) {
            due(run, i, "back", new int[0], x.back(), m.back());
        }
    }

    private void hostCall(int run, int i, int what, int[] v) {
        switch (what) {
            case 37: v[0] = upTo(3); v[1] = upTo(3) - 1; v[2] = random.nextBoolean() ? m.count(0) : upTo(40);
                due(run, i, "sheet", v, x.sheet(v[0], v[1], v[2]), m.sheet(v[0], v[1], v[2])); break;
            case 38: v[0] = upTo(3); v[1] = upTo(12); v[2] = random.nextInt(4) == 0 ? random.nextInt() : upTo(60);
                due(run, i, "cell", v, x.cell(v[0], v[1], v[2]), m.cell(v[0], v[1], v[2])); break;
            case 39: v[0] = upTo(3); v[1] = upTo(6); v[2] = upTo(3); v[3] = upTo(6); v[4] = upTo(6);
                due(run, i, "copy", v, x.copy(v[0], v[1], v[2], v[3], v[4]), m.copy(v[0], v[1], v[2], v[3], v[4])); break;
            default:
                if (random.nextInt(4) > 0) {
                    v[0] = upTo(17);
                    v[1] = upTo(6);
                    due(run, i, "taken", v, x.taken(v[0], v[1]), m.taken(v[0], v[1]));
                } else {
                    v[0] = upTo(3);
                    v[1] = upTo(2);
                    v[2] = upTo(12);
                    v[3] = upTo(3);
                    due(run, i, "ownersBy", v, x.ownersBy(v[0], v[1], v[2], v[3]), m.ownersBy(v[0], v[1], v[2], v[3]));
                }
                break;
        }
    }

    private void feed(int run, int i) {
        int[] v = {1 + upTo(4), upTo(255), upTo(255), upTo(255), upTo(255), upTo(255)};
        due(run, i, "feed", v, x.feed(v[0], v[1], v[2], v[3], v[4], v[5]), m.feed(v[0], v[1], v[2], v[3], v[4], v[5]));
    }

    private void aText(int run, int i) {
        if (random.nextInt(8) > 0 && m.count(6) > 0) {
            due(run, i, "text()", new int[0], x.text(), m.text());
        }
        StringBuilder text = new StringBuilder();
        text.append("falls ").append(sum(2)).append(";takes ").append(sum(2)).append("\n; lifts ").append(sum(1)).append(" ; ");
        int faults = random.nextInt(3) == 0 ? 1 + random.nextInt(2) : 0;
        for (int k = 0; k < faults; k++) {
            damage(text);
        }
        text.setLength(Math.min(160, text.length()));
        while (text.length() % 5 != 0 && text.length() < 160) {
            text.append(' ');
        }
        for (int k = 0; k + 5 <= text.length(); k += 5) {
            int[] v = {5, text.charAt(k), text.charAt(k + 1), text.charAt(k + 2), text.charAt(k + 3), text.charAt(k + 4)};
            due(run, i, "feed", v, x.feed(v[0], v[1], v[2], v[3], v[4], v[5]), m.feed(v[0], v[1], v[2], v[3], v[4], v[5]));
        }
        due(run, i, text.toString(), new int[0], x.text(), m.text());
    }

    private void damage(StringBuilder text) {
        String[] more = {"(", ")", "not ", "-", "<", "=", " 12345 ", ";", "x", " and ", "A", "0", "\n", "falls", "+", "((((("};
        int place = random.nextInt(text.length() + 1);
        if (random.nextInt(3) == 0 && place < text.length()) {
            text.deleteCharAt(place);
        } else {
            text.insert(place, more[random.nextInt(more.length)]);
        }
    }

    private String sum(int depth) {
        int shape = depth == 0 ? 0 : random.nextInt(9);
        switch (shape) {
            case 1: return "not " + sum(depth - 1);
            case 2: return "-" + sum(depth - 1);
            case 3: case 4: return "(" + sum(depth - 1) + ")";
            case 5: case 6: case 7:
                return sum(depth - 1) + JOINTS[random.nextInt(JOINTS.length)] + sum(depth - 1);
            default: return BITS[random.nextInt(BITS.length)];
        }
    }
}
