import java.util.ArrayDeque;
import java.util.ArrayList;
import java.util.Arrays;
import java.util.Deque;
import java.util.List;
import java.util.function.Consumer;
import java.util.function.ToIntFunction;

/** The document a second time, in another way and without care for speed: ModelTests holds the class against it. */
final class Model {
    static final long NO = -4611686018427387904L;
    private static final List<String> KEYS = List.of("falls", "takes", "lifts", "or", "and", "not");
    private static final List<String> NAMES = List.of("hour", "wall", "more", "heap", "gate", "passes");

    /** A KIND, as the document's table has it: what isn't told is as of the one above. */
    private static class Plain {
        int takes(int said, int more) { return said; }
        boolean throwsBack(int heap, int more) { return false; }
        boolean comes(int hour, int at, int more) { return hour % 24 == at; }
    }

    private static class Strong extends Plain {
        @Override int takes(int said, int more) { return said / 2; }
        @Override boolean comes(int hour, int at, int more) {
            return super.comes(hour, at, more) || (hour + 18) % 24 == at;
        }
    }

    private static class Careless extends Plain {
        @Override boolean throwsBack(int heap, int more) { return true; }
    }

    private static final class Young extends Strong {
        @Override int takes(int said, int more) { return super.takes(said, more) - more; }
        @Override boolean throwsBack(int heap, int more) { return heap > 20 * more + 20; }
    }

    private static final class Neighbour extends Careless {
        @Override int takes(int said, int more) { return super.takes(said, more) + 2; }
        @Override boolean throwsBack(int heap, int more) { return !(heap < 10 * more); }
    }

    private static final class Grey extends Plain {
        @Override int takes(int said, int more) { return said + said; }
        @Override boolean comes(int hour, int at, int more) {
            return super.comes(hour, at, more) && (hour / 24 + more) % 2 == 0;
        }
    }

    private static final Plain[] KINDS = {new Plain(), new Strong(), new Careless(), new Young(), new Neighbour(), new Grey()};

    /** put()'s numbers 0 .. 4, KIND, MORE; minutes, hours BLOCKED. */
    private static final class Gate {
        int[] v = new int[7];
        int minutes;
        int blocked;

        Gate like() {
            Gate g = new Gate();
            g.v = v.clone();
            return g;
        }
    }

    private static final class State {
        List<Gate> gates = new ArrayList<>();
        List<int[]> passes = new ArrayList<>();
        int[] road = new int[6];
        int hour;
        int limit = 10;
        int law;
        int lost;

        State like() {
            State s = new State();
            gates.forEach(g -> s.gates.add(g.like()));
            passes.forEach(p -> s.passes.add(p.clone()));
            s.road = road.clone();
            s.hour = hour;
            s.limit = limit;
            s.law = law;
            return s;
        }

        int minutes() {
            return gates.stream().mapToInt(g -> g.minutes).sum();
        }

        int blocked() {
            return gates.stream().mapToInt(g -> g.blocked).sum();
        }

        int mostMinutes() {
            return gates.stream().mapToInt(g -> g.minutes).max().orElse(0);
        }

        int answer(int what) {
            if (what == 0) {
                return minutes();
            }
            if (what == 1) {
                return blocked();
            }
            if (what == 2) {
                return lost;
            }
            if (what == 3) {
                return gates.stream().mapToInt(g -> g.v[1]).max().orElse(-1);
            }
            for (int g = 0; g < gates.size(); g++) {
                if (gates.get(g).minutes == mostMinutes()) {
                    return g;
                }
            }
            return -1;
        }
    }

    private State now = new State();
    private State image;
    private final List<List<List<String>>> texts = new ArrayList<>();
    private final StringBuilder tape = new StringBuilder();
    private final int[][] sheets = new int[4][];
    private final int[] sorts = new int[4];

    Model() {
        tape.append("falls 2 ; takes 3 + wall ; lifts 1 ; ");
        text();
    }

    // ---- the law

    int count(int what) {
        int[] all = {now.gates.size(), now.passes.size(), now.hour, now.limit, texts.size(), now.law, tape.length()};
        return what < 0 || what > 6 ? -2 : all[what];
    }

    int set(int what, int v) {
        if (what != 0 && what != 1) {
            return -5;
        }
        if (v < 0 || v > (what == 0 ? 99 : 999)) {
            return -7;
        }
        int was = count(what + 2);
        if (what == 0) {
            now.hour = v;
        } else {
            now.limit = v;
        }
        return was;
    }

    int feed(int n, int... five) {
        if (n < 1 || n > 5 || Arrays.stream(five).anyMatch(b -> b < 0 || b > 255)) {
            return -2;
        }
        if (tape.length() + n > 160) {
            return -4;
        }
        for (int i = 0; i < n; i++) {
            tape.append((char) five[i]);
        }
        return tape.length();
    }

    int text() {
        if (texts.size() == 6) {
            return -4;
        }
        String all = tape.toString();
        tape.setLength(0);
        List<String> tokens = new ArrayList<>();
        List<Integer> places = new ArrayList<>();
        cut(all, tokens, places);
        int stands = standing(tokens);
        if (stands >= 0) {
            return -100 - (stands == places.size() ? all.length() : places.get(stands));
        }
        List<List<String>> parts = new ArrayList<>();
        int from = 0;
        for (int i = 0; i < tokens.size(); i++) {
            if (tokens.get(i).equals(";")) {
                parts.add(tokens.subList(from + 1, i));
                from = i + 1;
            }
        }
        texts.add(parts);
        return texts.size() - 1;
    }

    private static void cut(String all, List<String> tokens, List<Integer> places) {
        java.util.regex.Matcher m = java.util.regex.Pattern.compile("[a-z]+|[0-9]+|[^ \n]", java.util.regex.Pattern.DOTALL).matcher(all);
        while (m.find()) {
            tokens.add(m.group());
            places.add(m.start());
        }
    }

    private static boolean isName(String token) {
        return NAMES.contains(token) || token.matches("[0-9]{1,4}");
    }

    /** The first token that can't stand: how many there are, if they end too early; -1 if all stand. By a stack of what is open. */
    private static int standing(List<String> tokens) {
        int part = 0;
        boolean wantsKey = true;
        boolean wantsOne = false;
        boolean mayNot = false;
        boolean compared = false;
        Deque<String> open = new ArrayDeque<>();
        for (int i = 0; i < tokens.size(); i++) {
            String t = tokens.get(i);
            if (wantsKey) {
                if (part == 3 || !t.equals(KEYS.get(part))) {
                    return i;
                }
                wantsKey = false;
                wantsOne = true;
                mayNot = true;
                compared = false;
            } else if (wantsOne) {
                if (isName(t)) {
                    closeAll(open, "-");
                    wantsOne = false;
                } else if (!(t.equals("-") || t.equals("(") || t.equals("not") && mayNot) || open.size() >= 5) {
                    return i;
                } else if (t.equals("(")) {
                    open.push(compared ? "(c" : "(");
                    compared = false;
                    mayNot = true;
                } else {
                    open.push(t);
                    mayNot = t.equals("not");
                }
            } else if (t.equals("+") || t.equals("-") || t.equals("*")) {
                wantsOne = true;
                mayNot = false;
            } else if ((t.equals("<") || t.equals("=")) && !compared) {
                compared = true;
                wantsOne = true;
                mayNot = false;
            } else if (t.equals("and") || t.equals("or")) {
                closeAll(open, "not");
                compared = false;
                wantsOne = true;
                mayNot = true;
            } else if (t.equals(")")) {
                closeAll(open, "not");
                if (open.isEmpty() || !open.peek().startsWith("(")) {
                    return i;
                }
                compared = open.pop().equals("(c");
                closeAll(open, "-");
            } else if (t.equals(";")) {
                closeAll(open, "not");
                if (!open.isEmpty()) {
                    return i;
                }
                wantsKey = true;
                part++;
            } else {
                return i;
            }
        }
        return part == 3 && wantsKey ? -1 : tokens.size();
    }

    private static void closeAll(Deque<String> open, String what) {
        while (!open.isEmpty() && open.peek().equals(what)) {
            open.pop();
        }
    }

    /** What tokens say, that stand: cut at the last sign that binds least. */
    private static int value(List<String> e, int[] facts) {
        int at = lastOf(e, "or");
        if (at < 0) {
            at = lastOf(e, "and");
        }
        if (at < 0 && e.get(0).equals("not")) {
            return value(e.subList(1, e.size()), facts) == 0 ? 1 : 0;
        }
        String[][] levels = {{"<", "="}, {"+", "-"}, {"*"}};
        for (int i = 0; i < 3 && at < 0; i++) {
            at = lastOf(e, levels[i]);
        }
        if (at >= 0) {
            int left = value(e.subList(0, at), facts);
            int right = value(e.subList(at + 1, e.size()), facts);
            switch (e.get(at)) {
                case "or": return left != 0 | right != 0 ? 1 : 0;
                case "and": return left != 0 & right != 0 ? 1 : 0;
                case "<": return left < right ? 1 : 0;
                case "=": return left == right ? 1 : 0;
                case "+": return (int) ((long) left + right);
                case "-": return (int) ((long) left - right);
                default: return (int) ((long) left * right);
            }
        }
        if (e.get(0).equals("-")) {
            return (int) -(long) value(e.subList(1, e.size()), facts);
        }
        if (e.get(0).equals("(")) {
            return value(e.subList(1, e.size() - 1), facts);
        }
        int name = NAMES.indexOf(e.get(0));
        return name >= 0 ? facts[name] : Integer.parseInt(e.get(0));
    }

    private static int lastOf(List<String> e, String... signs) {
        int depth = 0;
        for (int i = e.size() - 1; i > 0; i--) {
            String t = e.get(i);
            depth += t.equals(")") ? 1 : t.equals("(") ? -1 : 0;
            String ahead = e.get(i - 1);
            if (depth == 0 && Arrays.asList(signs).contains(t) && (isName(ahead) || ahead.equals(")"))) {
                return i;
            }
        }
        return -1;
    }

    private int says(State s, int part, int g, int wall, boolean isOfOwner) {
        int[] facts = {s.hour, wall, isOfOwner ? s.gates.get(g).v[6] : 0, isOfOwner ? s.gates.get(g).v[1] : 0, g, s.passes.size()};
        return Math.min(99, Math.max(0, value(texts.get(s.law).get(part), facts)));
    }

    int force(int t) {
        if (t < 0 || t >= texts.size()) {
            return -2;
        }
        int was = now.law;
        now.law = t;
        return was;
    }

    int asks(int part, int g, int lies) {
        if (part < 0 || part > 2 || !isOwner(g) || lies < 0 || lies > 999) {
            return -2;
        }
        return says(now, part, g, lies, true);
    }

    // ---- owners, passes

    private boolean isOwner(int g) {
        return 0 <= g && g < now.gates.size();
    }

    int owner(int kindMore, int at) {
        if (kindMore < 0 || kindMore > 59 || at < 0 || at > 23) {
            return -2;
        }
        if (now.gates.size() == 12) {
            return -4;
        }
        Gate g = new Gate();
        g.v[3] = at;
        g.v[5] = kindMore / 10;
        g.v[6] = kindMore % 10;
        now.gates.add(g);
        return now.gates.size() - 1;
    }

    int put(int g, int what, int v) {
        if (!isOwner(g)) {
            return -5;
        }
        int[] most = {999, 999, 99, 23, 1};
        if (what < 0 || what > 4 || v < 0 || v > most[what]) {
            return -7;
        }
        int was = now.gates.get(g).v[what];
        now.gates.get(g).v[what] = v;
        return was;
    }

    int told(int g, int what) {
        if (!isOwner(g)) {
            return -5;
        }
        if (what < 0 || what > 7) {
            return -7;
        }
        return what == 7 ? now.road[g / 2] : now.gates.get(g).v[what];
    }

    private static boolean isPass(int at, int to) {
        return at >= 0 && at <= 23 && (to == 0 || to == 1);
    }

    int pass(int at, int to) {
        if (!isPass(at, to)) {
            return -2;
        }
        if (now.passes.size() == 6) {
            return -4;
        }
        now.passes.add(new int[] {at, to});
        return now.passes.size();
    }

    int comes(int k) {
        return k < 0 || k >= now.passes.size() ? -6 : now.passes.get(k)[0] * 10 + now.passes.get(k)[1];
    }

    int move(int k, int at, int to) {
        int was = comes(k);
        if (was < 0) {
            return -6;
        }
        if (!isPass(at, to)) {
            return -7;
        }
        now.passes.set(k, new int[] {at, to});
        return was;
    }

    // ---- hours

    private void oneHour(State s) {
        int falls = says(s, 0, 0, 0, false);
        for (int p = 0; p < 6; p++) {
            s.road[p] = Math.min(999, s.road[p] + falls);
        }
        for (int[] pass : s.passes) {
            if (pass[0] == s.hour % 24) {
                plough(s, pass[1]);
            }
        }
        for (int g = 0; g < s.gates.size(); g++) {
            int[] v = s.gates.get(g).v;
            Plain kind = KINDS[v[5]];
            if (v[0] == 0 || !kind.comes(s.hour, v[3], v[6])) {
                continue;
            }
            s.gates.get(g).minutes += Math.max(1, kind.takes(says(s, 1, g, v[0], true), v[6]));
            if (kind.throwsBack(v[1], v[6])) {
                s.road[g / 2] = Math.min(999, s.road[g / 2] + v[0]);
            } else {
                v[1] = Math.min(999, v[1] + v[0]);
            }
            v[0] = 0;
        }
        s.gates.stream().filter(g -> g.v[0] > s.limit).forEach(g -> g.blocked++);
        s.hour++;
    }

    private void plough(State s, int side) {
        int blade = 0;
        for (int p = 0; p < 6; p++) {
            blade = Math.min(999, blade + s.road[p]);
            s.road[p] = 0;
            int g = p + p + side;
            if (g >= s.gates.size()) {
                s.lost += blade;
                blade = 0;
                continue;
            }
            int[] v = s.gates.get(g).v;
            int goes = Math.min(blade, v[4] == 1 ? says(s, 2, g, blade, true) : v[2]);
            s.lost += goes;
            blade -= goes;
            if (v[4] == 0) {
                v[0] = Math.min(999, v[0] + blade);
                blade = 0;
            }
        }
        s.lost += blade;
    }

    private State behind(int n, Consumer<State> wereItSo) {
        State s = now.like();
        wereItSo.accept(s);
        for (int i = 0; i < n; i++) {
            oneHour(s);
        }
        return s;
    }

    private State behind(int n) {
        return behind(n, s -> { });
    }

    private static boolean isN(int n) {
        return n >= 0 && n <= 48;
    }

    int live() {
        if (now.hour == 999) {
            return -4;
        }
        now = behind(1);
        return now.minutes();
    }

    int run(int n, int what) {
        if (!isN(n)) {
            return -2;
        }
        State s = behind(n);
        if (what >= 0 && what <= 4) {
            return s.answer(what);
        }
        int[] firsts = {10, 30, 50};
        for (int first : firsts) {
            if (what >= first && what - first < now.gates.size()) {
                Gate g = s.gates.get(what - first);
                return first == 10 ? g.minutes : first == 30 ? g.blocked : g.v[0];
            }
        }
        return -7;
    }

    // ---- what is best

    /** The least number below so many by which the measure is least (what 0), or the measure (1); -1, if there are none. */
    private static int best(int many, int what, ToIntFunction<Integer> measure) {
        int least = Integer.MAX_VALUE;
        int by = -1;
        for (int i = many - 1; i >= 0; i--) {
            int m = measure.applyAsInt(i);
            if (m <= least) {
                least = m;
                by = i;
            }
        }
        return what == 0 ? by : least;
    }

    private static boolean isGoal(int goalWhat) {
        return goalWhat == 0 || goalWhat == 1 || goalWhat == 10 || goalWhat == 11;
    }

    int when(int g, int n, int goalWhat) {
        if (!isOwner(g)) {
            return -5;
        }
        if (!isN(n) || !isGoal(goalWhat)) {
            return -7;
        }
        return best(24, goalWhat % 10, at -> {
            Gate one = behind(n, s -> s.gates.get(g).v[3] = at).gates.get(g);
            return goalWhat / 10 == 0 ? one.minutes : one.blocked;
        });
    }

    int dig(int g, int n, int most) {
        if (!isOwner(g)) {
            return -5;
        }
        if (!isN(n) || most < 0 || most > 9999) {
            return -7;
        }
        for (int i = 0; i < 100; i++) {
            int bay = i;
            if (behind(n, s -> s.gates.get(g).v[2] = bay).gates.get(g).minutes <= most) {
                return bay;
            }
        }
        return -1;
    }

    int blade(int n, int what) {
        if (!isN(n) || what < 0 || what > 1) {
            return -2;
        }
        int asNow = behind(n).minutes();
        ToIntFunction<Integer> measure = g -> behind(n, s -> s.gates.get(g).v[4] = 1).minutes();
        int fewest = best(now.gates.size(), 1, measure);
        if (fewest < asNow) {
            return what == 1 ? fewest : best(now.gates.size(), 0, measure);
        }
        return what == 1 ? asNow : -1;
    }

    int sides(int n, int goalWhat) {
        if (!isN(n) || !isGoal(goalWhat)) {
            return -2;
        }
        return best(1 << now.passes.size(), goalWhat % 10, bits -> {
            State then = behind(n, s -> {
                for (int k = 0; k < s.passes.size(); k++) {
                    s.passes.get(k)[1] = (bits & 1 << k) != 0 ? 1 : 0;
                }
            });
            return goalWhat / 10 == 0 ? then.blocked() : then.mostMinutes();
        });
    }

    int gains(int g, int n, int what) {
        if (!isOwner(g)) {
            return -1000005;
        }
        if (!isN(n) || what < 0 || what > 1) {
            return -1000007;
        }
        State asNow = behind(n);
        State then = behind(n, s -> s.gates.get(g).v[5] = 2);
        int less = asNow.gates.get(g).minutes - then.gates.get(g).minutes;
        return what == 0 ? less : then.minutes() - asNow.minutes() + less;
    }

    int helps(int g, int n, int what) {
        if (!isOwner(g)) {
            return -5;
        }
        if (!isN(n) || what < 0 || what > 1) {
            return -7;
        }
        if (now.gates.size() == 1) {
            return -1;
        }
        return best(now.gates.size(), what, other -> {
            if (other == g) {
                return Integer.MAX_VALUE;
            }
            State then = behind(n, s -> {
                s.gates.get(other).v[5] = s.gates.get(g).v[5];
                s.gates.get(other).v[6] = s.gates.get(g).v[6];
            });
            return then.gates.get(g).minutes + then.gates.get(other).minutes;
        });
    }

    // ---- told walls

    private int toldRefusal(int s) {
        if (s < 0 || s > 3) {
            return -2;
        }
        if (sheets[s] == null) {
            return -11;
        }
        return sheets[s].length != now.gates.size() ? -2 : 0;
    }

    private int otherwise(int sheet, State s) {
        int[] walls = s.gates.stream().mapToInt(g -> g.v[0]).toArray();
        return Arrays.mismatch(sheets[sheet], walls);
    }

    int judge(int s, int n) {
        int refusal = toldRefusal(s);
        if (refusal != 0) {
            return refusal;
        }
        return isN(n) ? otherwise(s, behind(n)) : -7;
    }

    int kinds(int s, int n, int g, int sort) {
        int refusal = toldRefusal(s);
        if (refusal != 0) {
            return refusal;
        }
        if (!isOwner(g)) {
            return -5;
        }
        if (!isN(n) || sort < 0 || sort > 2) {
            return -7;
        }
        int[] what = {5, 6, 3};
        int[] many = {6, 10, 24};
        int bits = 0;
        for (int i = 0; i < many[sort]; i++) {
            int v = i;
            bits += otherwise(s, behind(n, x -> x.gates.get(g).v[what[sort]] = v)) == -1 ? 1 << i : 0;
        }
        return bits;
    }

    int hours(int s, int what) {
        int refusal = toldRefusal(s);
        if (refusal != 0) {
            return refusal;
        }
        if (what < 0 || what > 1) {
            return -7;
        }
        int[] such = java.util.stream.IntStream.rangeClosed(0, 48).filter(n -> judge(s, n) == -1).toArray();
        return what == 0 ? such.length : such.length == 0 ? -1 : such[0];
    }

    int laws(int s, int n) {
        int refusal = toldRefusal(s);
        if (refusal != 0) {
            return refusal;
        }
        if (!isN(n)) {
            return -7;
        }
        int bits = 0;
        for (int i = 0; i < texts.size(); i++) {
            int t = i;
            bits += otherwise(s, behind(n, x -> x.law = t)) == -1 ? 1 << i : 0;
        }
        return bits;
    }

    int film(int s, int n) {
        if (s < 0 || s > 3 || !isN(n)) {
            return -2;
        }
        sheets[s] = behind(n).gates.stream().mapToInt(g -> g.v[0]).toArray();
        sorts[s] = 1;
        return sheets[s].length;
    }

    // ---- winters by lots

    private State winter(int seed, int n, int most) {
        State s = now.like();
        long lot = seed + 1;
        for (int i = 0; i < n; i++) {
            for (int p = 0; p < 6; p++) {
                lot = lot * 48271 % 2147483647;
                s.road[p] = (int) Math.min(999, s.road[p] + lot % (most + 1));
            }
            oneHour(s);
        }
        return s;
    }

    int drawn(int seed, int n, int mostWhat) {
        if (seed < 0 || seed > 99999 || !isN(n) || mostWhat < 0 || mostWhat > 999 || mostWhat % 10 > 4) {
            return -2;
        }
        return winter(seed, n, mostWhat / 10).answer(mostWhat % 10);
    }

    long odds(int seed, int hoursSeeds, int g, int most, int part) {
        int n = hoursSeeds / 100;
        int below = hoursSeeds % 100;
        if (seed < 0 || seed > 99999 || !isN(n) || below < 1 || below > 20) {
            return NO;
        }
        if (!isOwner(g) || most < 0 || most > 99 || part < 0 || part > 1) {
            return NO;
        }
        int above = 0;
        for (int i = 0; i < below; i++) {
            above += winter(seed + i, n, most).gates.get(g).blocked == 0 ? 1 : 0;
        }
        int common = java.math.BigInteger.valueOf(above).gcd(java.math.BigInteger.valueOf(below)).intValue();
        return (part == 0 ? above : below) / common;
    }

    int image() {
        image = now.like();
        return image.gates.size();
    }

    int back() {
        if (image == null) {
            return -3;
        }
        now = image.like();
        return now.gates.size();
    }

    // ---- the host

    int sheet(int s, int sort, int n) {
        if (s < 0 || s > 3 || sort < -1 || sort > 2 || sort >= 0 && n > 40) {
            return -2;
        }
        if (sort >= 0 && n < 0) {
            return -14;
        }
        sheets[s] = sort < 0 ? null : new int[n];
        sorts[s] = sort;
        return 1;
    }

    int cell(int s, int i, int v) {
        if (s < 0 || s > 3) {
            return -2;
        }
        if (sheets[s] == null) {
            return -11;
        }
        if (i < 0 || i >= sheets[s].length) {
            return -12;
        }
        int unused = sorts[s] == 0 ? 24 : sorts[s] == 1 ? 16 : 0;
        sheets[s][i] = v << unused >> unused;
        return 1;
    }

    int copy(int s, int i, int other, int j, int n) {
        if (s < 0 || s > 3 || other < 0 || other > 3) {
            return -2;
        }
        if (sheets[s] == null || sheets[other] == null) {
            return -11;
        }
        if (sorts[s] != sorts[other]) {
            return -13;
        }
        if (i < 0 || j < 0 || n < 0 || (long) i + n > sheets[s].length || (long) j + n > sheets[other].length) {
            return -12;
        }
        int[] asTheyWere = sheets[s].clone();
        for (int k = 0; k < n; k++) {
            sheets[other][j + k] = asTheyWere[i + k];
        }
        return n;
    }

    int ownersBy(int s, int sort, int at, int n) {
        if (s < 0 || s > 3 || sort < 0 || sort > 2 || n < 0 || n > 12) {
            return -2;
        }
        if (sheets[s] == null) {
            return -11;
        }
        if (sorts[s] != sort) {
            return -13;
        }
        int came = 0;
        for (long place = at; place < (long) at + 2 * n; place += 2) {
            if (place < 0 || place + 1 >= sheets[s].length) {
                return -12;
            }
            came += owner(sheets[s][(int) place], sheets[s][(int) place + 1]) >= 0 ? 1 : 0;
        }
        return came;
    }

    long taken(int i, int kind) {
        if (kind < 0 || kind > 6) {
            return -2;
        }
        if (i < 0 || i > 17) {
            return -12;
        }
        if (i > 11) {
            return kind == 6 ? now.road[i - 12] : -13;
        }
        if (!isOwner(i)) {
            return -11;
        }
        return kind < 6 && KINDS[kind].getClass().isInstance(KINDS[now.gates.get(i).v[5]]) ? i : -13;
    }
}
