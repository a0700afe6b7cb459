/** A road in winter, its plough and the owners along it, as ../shared/DOC.md promises. */
public final class ThrownBack {
    public static final int NONE = -1, BAD = -2, STATE = -3, FULL = -4;
    public static final long NO = -4611686018427387904L;

    private static final int NO_OWNER = -5, NO_PASS = -6, WRONG = -7;
    private static final int MISSING = -11, OUTSIDE = -12, OTHER_SORT = -13, BELOW_NONE = -14;
    private static final int GAINS_REFUSED = -1000000;
    private static final int FIRST_FAULT = -100;
    private static final int MORE_THAN_ANY = 2147483647;

    private static final int MOST_OWNERS = 12, MOST_PASSES = 6, PARTS = 6, MOST_TEXTS = 6;
    private static final int SHEETS = 4, LARGEST_SHEET = 40, TAPE_SIZE = 160;
    private static final int DAY = 24, LAST_HOUR = 999, LAST_SET_HOUR = 99, MOST_HOURS = 48;
    private static final int MOST_SNOW = 999, MOST_LIMIT = 999, LARGEST_BAY = 99, MOST_SAID = 99;
    private static final int MOST_MINUTES = 9999, LAST_SEED = 99999, MOST_LOT = 99, MOST_SEEDS = 20;
    private static final int KINDS = 6, AS_PART = 6, MORES = 10;
    private static final int BYTES = 0, SHORTS = 1, INTS = 2;
    private static final int WALL = 0, HEAP = 1, BAY = 2, AT = 3, LIFTED = 4, KIND = 5, MORE = 6, PART_LIES = 7;
    private static final int[] MOST_PUT = {MOST_SNOW, MOST_SNOW, LARGEST_BAY, DAY - 1, 1};
    private static final String FIRST_TEXT = "falls 2 ; takes 3 + wall ; lifts 1 ; ";

    private final Road real = new Road();
    private final Road thought = new Road();
    private final Road kept = new Road();
    private boolean isKept;
    private final Reader reader = new Reader();
    private final Law[] texts = new Law[MOST_TEXTS];
    private int textCount;
    private final Sheet[] sheets = new Sheet[SHEETS];
    private final Lots lots = new Lots();

    public ThrownBack() {
        for (int t = 0; t < texts.length; t++) {
            texts[t] = new Law();
        }
        for (int s = 0; s < sheets.length; s++) {
            sheets[s] = new Sheet();
        }
        for (int i = 0; i < FIRST_TEXT.length(); i++) {
            reader.add(FIRST_TEXT.charAt(i));
        }
        reader.readInto(texts[0]);
        reader.clear();
        textCount = 1;
    }

    // ---- the law

    public int count(int what) {
        switch (what) {
            case 0: return real.ownerCount;
            case 1: return real.passCount;
            case 2: return real.hour;
            case 3: return real.limit;
            case 4: return textCount;
            case 5: return real.law;
            case 6: return reader.size;
            default: return BAD;
        }
    }

    public int set(int what, int v) {
        if (what < 0 || what > 1) {
            return NO_OWNER;
        }
        if (!isWithin(v, what == 0 ? LAST_SET_HOUR : MOST_LIMIT)) {
            return WRONG;
        }
        int was = what == 0 ? real.hour : real.limit;
        if (what == 0) {
            real.hour = v;
        } else {
            real.limit = v;
        }
        return was;
    }

    public int feed(int n, int a, int b, int c, int d, int e) {
        if (n < 1 || n > 5 || !isByte(a) || !isByte(b) || !isByte(c) || !isByte(d) || !isByte(e)) {
            return BAD;
        }
        if (n > TAPE_SIZE - reader.size) {
            return FULL;
        }
        for (int i = 0; i < n; i++) {
            switch (i) {
                case 0: reader.add(a); break;
                case 1: reader.add(b); break;
                case 2: reader.add(c); break;
                case 3: reader.add(d); break;
                default: reader.add(e); break;
            }
        }
        return reader.size;
    }

    public int text() {
        if (textCount >= texts.length) {
            return FULL;
        }
        int fault = reader.readInto(texts[textCount]);
        reader.clear();
        if (fault != NONE) {
            return FIRST_FAULT - fault;
        }
        textCount++;
        return textCount - 1;
    }

    public int force(int t) {
        if (t < 0 || t >= textCount) {
            return BAD;
        }
        int was = real.law;
        real.law = t;
        return was;
    }

    public int asks(int part, int g, int lies) {
        if (part < 0 || part >= Law.SAID || !real.hasOwner(g) || !isWithin(lies, MOST_SNOW)) {
            return BAD;
        }
        return real.saidOf(part, texts[real.law], g, lies);
    }

    // ---- owners, passes

    public int owner(int kindMore, int at) {
        if (!isWithin(kindMore, KINDS * 10 - 1) || !isHourOfDay(at)) {
            return BAD;
        }
        return real.addOwner(kindMore / 10, kindMore % 10, at);
    }

    public int put(int g, int what, int v) {
        if (!real.hasOwner(g)) {
            return NO_OWNER;
        }
        if (what < 0 || what >= MOST_PUT.length || !isWithin(v, MOST_PUT[what])) {
            return WRONG;
        }
        Owner one = real.owners[g];
        int was = one.number(what);
        one.change(what, v);
        return was;
    }

    public int told(int g, int what) {
        if (!real.hasOwner(g)) {
            return NO_OWNER;
        }
        if (!isWithin(what, PART_LIES)) {
            return WRONG;
        }
        return what == PART_LIES ? real.lies[g / 2] : real.owners[g].number(what);
    }

    public int pass(int at, int to) {
        if (!isHourOfDay(at) || !isSide(to)) {
            return BAD;
        }
        return real.addPass(at, to);
    }

    public int move(int k, int at, int to) {
        if (!real.hasPass(k)) {
            return NO_PASS;
        }
        if (!isHourOfDay(at) || !isSide(to)) {
            return WRONG;
        }
        int was = comes(k);
        real.passHours[k] = at;
        real.passSides[k] = to;
        return was;
    }

    public int comes(int k) {
        return real.hasPass(k) ? 10 * real.passHours[k] + real.passSides[k] : NO_PASS;
    }

    // ---- hours

    public int live() {
        if (real.hour >= LAST_HOUR) {
            return FULL;
        }
        real.forgetTallies();
        real.oneHour(texts[real.law]);
        return real.allMinutes();
    }

    public int run(int n, int what) {
        if (!areHours(n)) {
            return BAD;
        }
        if (!isAnswer(what) && !real.hasOwner(ownerToldOf(what))) {
            return WRONG;
        }
        think();
        goOn(n);
        if (isAnswer(what)) {
            return thought.answer(what);
        }
        Owner one = thought.owners[ownerToldOf(what)];
        return what < 30 ? one.minutes : what < 50 ? one.blocked : one.wall;
    }

    /** The OWNER that run()'s what names; NONE if it names none. */
    private static int ownerToldOf(int what) {
        return what < 10 || what >= 70 ? NONE : (what - 10) % 20;
    }

    // ---- what is best

    public int when(int g, int n, int goalWhat) {
        if (!real.hasOwner(g)) {
            return NO_OWNER;
        }
        if (!areHours(n) || !isGoalWhat(goalWhat)) {
            return WRONG;
        }
        int best = NONE;
        int fewest = MORE_THAN_ANY;
        for (int at = 0; at < DAY; at++) {
            thinkOf(g, AT, at, n);
            Owner one = thought.owners[g];
            int many = goalWhat < 10 ? one.minutes : one.blocked;
            if (many < fewest) {
                fewest = many;
                best = at;
            }
        }
        return goalWhat % 10 == 0 ? best : fewest;
    }

    public int dig(int g, int n, int most) {
        if (!real.hasOwner(g)) {
            return NO_OWNER;
        }
        if (!areHours(n) || !isWithin(most, MOST_MINUTES)) {
            return WRONG;
        }
        for (int bay = 0; bay <= LARGEST_BAY; bay++) {
            thinkOf(g, BAY, bay, n);
            if (thought.owners[g].minutes <= most) {
                return bay;
            }
        }
        return NONE;
    }

    public int blade(int n, int what) {
        if (!areHours(n) || what < 0 || what > 1) {
            return BAD;
        }
        think();
        goOn(n);
        int best = NONE;
        int fewest = thought.allMinutes();
        for (int g = 0; g < real.ownerCount; g++) {
            thinkOf(g, LIFTED, 1, n);
            int many = thought.allMinutes();
            if (many < fewest) {
                fewest = many;
                best = g;
            }
        }
        return what == 0 ? best : fewest;
    }

    public int sides(int n, int goalWhat) {
        if (!areHours(n) || !isGoalWhat(goalWhat)) {
            return BAD;
        }
        int best = NONE;
        int fewest = MORE_THAN_ANY;
        for (int bits = 0; bits < 1 << real.passCount; bits++) {
            think();
            thought.turnPasses(bits);
            goOn(n);
            int many = goalWhat < 10 ? thought.allBlocked() : thought.mostMinutes();
            if (many < fewest) {
                fewest = many;
                best = bits;
            }
        }
        return goalWhat % 10 == 0 ? best : fewest;
    }

    public int gains(int g, int n, int what) {
        if (!real.hasOwner(g)) {
            return GAINS_REFUSED + NO_OWNER;
        }
        if (!areHours(n) || what < 0 || what > 1) {
            return GAINS_REFUSED + WRONG;
        }
        think();
        goOn(n);
        int own = thought.owners[g].minutes;
        int others = thought.allMinutes() - own;
        thinkOf(g, KIND, Owner.CARELESS, n);
        int ownThen = thought.owners[g].minutes;
        int othersThen = thought.allMinutes() - ownThen;
        return what == 0 ? own - ownThen : othersThen - others;
    }

    public int helps(int g, int n, int what) {
        if (!real.hasOwner(g)) {
            return NO_OWNER;
        }
        if (!areHours(n) || what < 0 || what > 1) {
            return WRONG;
        }
        if (real.ownerCount < 2) {
            return NONE;
        }
        int best = NONE;
        int fewest = MORE_THAN_ANY;
        for (int other = 0; other < real.ownerCount; other++) {
            int many = other == g ? MORE_THAN_ANY : minutesOfLikes(g, other, n);
            if (many < fewest) {
                fewest = many;
                best = other;
            }
        }
        return what == 0 ? best : fewest;
    }

    private int minutesOfLikes(int g, int other, int n) {
        think();
        Owner one = thought.owners[g];
        Owner like = thought.owners[other];
        like.kind = one.kind;
        like.more = one.more;
        goOn(n);
        return one.minutes + like.minutes;
    }

    // ---- told walls

    public int judge(int s, int n) {
        int refusal = refusalOfTold(s);
        if (refusal != 0) {
            return refusal;
        }
        if (!areHours(n)) {
            return WRONG;
        }
        think();
        goOn(n);
        return thought.firstOther(sheets[s]);
    }

    public int kinds(int s, int n, int g, int sort) {
        int refusal = refusalOfTold(s);
        if (refusal != 0) {
            return refusal;
        }
        if (!real.hasOwner(g)) {
            return NO_OWNER;
        }
        if (!areHours(n) || sort < 0 || sort > 2) {
            return WRONG;
        }
        int what = sort == 0 ? KIND : sort == 1 ? MORE : AT;
        int choices = sort == 0 ? KINDS : sort == 1 ? MORES : DAY;
        int bits = 0;
        for (int v = 0; v < choices; v++) {
            thinkOf(g, what, v, n);
            if (thought.firstOther(sheets[s]) == NONE) {
                bits |= 1 << v;
            }
        }
        return bits;
    }

    public int hours(int s, int what) {
        int refusal = refusalOfTold(s);
        if (refusal != 0) {
            return refusal;
        }
        if (what < 0 || what > 1) {
            return WRONG;
        }
        int many = 0;
        int least = NONE;
        think();
        for (int n = 0; n <= MOST_HOURS; n++) {
            if (thought.firstOther(sheets[s]) == NONE) {
                many++;
                least = least == NONE ? n : least;
            }
            goOn(1);
        }
        return what == 0 ? many : least;
    }

    public int laws(int s, int n) {
        int refusal = refusalOfTold(s);
        if (refusal != 0) {
            return refusal;
        }
        if (!areHours(n)) {
            return WRONG;
        }
        int bits = 0;
        for (int t = 0; t < textCount; t++) {
            think();
            thought.law = t;
            goOn(n);
            if (thought.firstOther(sheets[s]) == NONE) {
                bits |= 1 << t;
            }
        }
        return bits;
    }

    public int film(int s, int n) {
        if (!isSheet(s) || !areHours(n)) {
            return BAD;
        }
        think();
        goOn(n);
        Sheet row = sheets[s];
        row.begin(SHORTS, thought.ownerCount);
        for (int g = 0; g < thought.ownerCount; g++) {
            row.write(g, thought.owners[g].wall);
        }
        return thought.ownerCount;
    }

    /** Why a SHEET can't tell the WALLS of all GATES; 0 if it can. */
    private int refusalOfTold(int s) {
        if (!isSheet(s)) {
            return BAD;
        }
        if (sheets[s].isMissing()) {
            return MISSING;
        }
        return sheets[s].size == real.ownerCount ? 0 : BAD;
    }

    // ---- winters by lots

    public int drawn(int seed, int n, int mostWhat) {
        if (!isWithin(seed, LAST_SEED) || !areHours(n)) {
            return BAD;
        }
        if (!isWithin(mostWhat, 10 * MOST_LOT + 9) || !isAnswer(mostWhat % 10)) {
            return BAD;
        }
        thinkOfWinter(seed, n, mostWhat / 10);
        return thought.answer(mostWhat % 10);
    }

    public long odds(int seed, int hoursSeeds, int g, int most, int part) {
        if (!isWithin(seed, LAST_SEED) || hoursSeeds < 0) {
            return NO;
        }
        int n = hoursSeeds / 100;
        int below = hoursSeeds % 100;
        if (!areHours(n) || below < 1 || below > MOST_SEEDS || !real.hasOwner(g)) {
            return NO;
        }
        if (!isWithin(most, MOST_LOT) || part < 0 || part > 1) {
            return NO;
        }
        int above = 0;
        for (int i = 0; i < below; i++) {
            thinkOfWinter(seed + i, n, most);
            if (thought.owners[g].blocked == 0) {
                above++;
            }
        }
        return (part == 0 ? above : below) / commonDivisor(above, below);
    }

    /** The greatest number that divides both; below is above 0. */
    private static int commonDivisor(int above, int below) {
        for (int d = below; d > 1; d--) {
            if (above % d == 0 && below % d == 0) {
                return d;
            }
        }
        return 1;
    }

    public int image() {
        kept.become(real);
        isKept = true;
        return kept.ownerCount;
    }

    public int back() {
        if (!isKept) {
            return STATE;
        }
        // KINDS and MORE come along, but no call changes them of an OWNER that stays
        real.become(kept);
        return real.ownerCount;
    }

    // ---- the host

    public int sheet(int s, int sort, int n) {
        if (!isSheet(s) || sort < NONE || sort > INTS || sort != NONE && n > LARGEST_SHEET) {
            return BAD;
        }
        if (sort != NONE && n < 0) {
            return BELOW_NONE;
        }
        sheets[s].begin(sort, sort == NONE ? 0 : n);
        return 1;
    }

    public int cell(int s, int i, int v) {
        if (!isSheet(s)) {
            return BAD;
        }
        if (sheets[s].isMissing()) {
            return MISSING;
        }
        if (!sheets[s].hasPlace(i)) {
            return OUTSIDE;
        }
        sheets[s].write(i, v);
        return 1;
    }

    public int copy(int s, int i, int other, int j, int n) {
        if (!isSheet(s) || !isSheet(other)) {
            return BAD;
        }
        Sheet from = sheets[s];
        Sheet to = sheets[other];
        if (from.isMissing() || to.isMissing()) {
            return MISSING;
        }
        if (from.sort != to.sort) {
            return OTHER_SORT;
        }
        if (!from.hasPlaces(i, n) || !to.hasPlaces(j, n)) {
            return OUTSIDE;
        }
        System.arraycopy(from.row, i, to.row, j, n);
        return n;
    }

    public int ownersBy(int s, int sort, int at, int n) {
        if (!isSheet(s) || sort < BYTES || sort > INTS || !isWithin(n, MOST_OWNERS)) {
            return BAD;
        }
        Sheet by = sheets[s];
        if (by.isMissing()) {
            return MISSING;
        }
        if (by.sort != sort) {
            return OTHER_SORT;
        }
        int came = 0;
        int place = at;
        for (int i = 0; i < n; i++) {
            if (!by.hasPlaces(place, 2)) {
                return OUTSIDE;
            }
            if (owner(by.row[place], by.row[place + 1]) >= 0) {
                came++;
            }
            place += 2;
        }
        return came;
    }

    public long taken(int i, int kind) {
        if (!isWithin(kind, AS_PART)) {
            return BAD;
        }
        if (!isWithin(i, MOST_OWNERS + PARTS - 1)) {
            return OUTSIDE;
        }
        if (i >= MOST_OWNERS) {
            return kind == AS_PART ? real.lies[i - MOST_OWNERS] : OTHER_SORT;
        }
        if (!real.hasOwner(i)) {
            return MISSING;
        }
        return real.owners[i].isOf(kind) ? i : OTHER_SORT;
    }

    // ---- thoughts

    private void think() {
        thought.become(real);
    }

    private void goOn(int n) {
        Law law = texts[thought.law];
        for (int i = 0; i < n; i++) {
            thought.oneHour(law);
        }
    }

    /** n HOURS in thought, one number of an OWNER's being another. */
    private void thinkOf(int g, int what, int v, int n) {
        think();
        thought.owners[g].change(what, v);
        goOn(n);
    }

    private void thinkOfWinter(int seed, int n, int most) {
        think();
        lots.begin(seed);
        Law law = texts[thought.law];
        for (int i = 0; i < n; i++) {
            thought.snowBy(lots, most);
            thought.oneHour(law);
        }
    }

    // ---- what numbers may be

    private static boolean isWithin(int v, int most) {
        return v >= 0 && v <= most;
    }

    private static boolean isByte(int v) {
        return isWithin(v, 255);
    }

    private static boolean isHourOfDay(int v) {
        return isWithin(v, DAY - 1);
    }

    private static boolean isSide(int v) {
        return isWithin(v, 1);
    }

    private static boolean areHours(int n) {
        return isWithin(n, MOST_HOURS);
    }

    private static boolean isAnswer(int what) {
        return isWithin(what, 4);
    }

    private static boolean isGoalWhat(int goalWhat) {
        return isWithin(goalWhat, 11) && goalWhat % 10 <= 1;
    }

    private static boolean isSheet(int s) {
        return isWithin(s, SHEETS - 1);
    }

    /** All that lies and stands along the road, with what was counted since the tallies were forgotten. */
    private static final class Road {
        final Owner[] owners = new Owner[MOST_OWNERS];
        int ownerCount;
        final int[] lies = new int[PARTS];
        final int[] passHours = new int[MOST_PASSES];
        final int[] passSides = new int[MOST_PASSES];
        int passCount;
        int hour;
        int limit = 10;
        int law;
        private int lost;
        private final int[] facts = new int[Law.FACTS];

        Road() {
            for (int g = 0; g < owners.length; g++) {
                owners[g] = new Owner();
            }
        }

        boolean hasOwner(int g) {
            return g >= 0 && g < ownerCount;
        }

        boolean hasPass(int k) {
            return k >= 0 && k < passCount;
        }

        int addOwner(int kind, int more, int at) {
            if (ownerCount >= owners.length) {
                return FULL;
            }
            owners[ownerCount].begin(kind, more, at);
            ownerCount++;
            return ownerCount - 1;
        }

        int addPass(int at, int to) {
            if (passCount >= passHours.length) {
                return FULL;
            }
            passHours[passCount] = at;
            passSides[passCount] = to;
            passCount++;
            return passCount;
        }

        void turnPasses(int bits) {
            for (int k = 0; k < passCount; k++) {
                passSides[k] = bits >> k & 1;
            }
        }

        void become(Road other) {
            ownerCount = other.ownerCount;
            for (int g = 0; g < ownerCount; g++) {
                owners[g].become(other.owners[g]);
            }
            System.arraycopy(other.lies, 0, lies, 0, PARTS);
            System.arraycopy(other.passHours, 0, passHours, 0, MOST_PASSES);
            System.arraycopy(other.passSides, 0, passSides, 0, MOST_PASSES);
            passCount = other.passCount;
            hour = other.hour;
            limit = other.limit;
            law = other.law;
            forgetTallies();
        }

        void forgetTallies() {
            lost = 0;
            for (int g = 0; g < ownerCount; g++) {
                owners[g].minutes = 0;
                owners[g].blocked = 0;
            }
        }

        void snowBy(Lots lots, int most) {
            for (int p = 0; p < lies.length; p++) {
                lies[p] = Math.min(MOST_SNOW, lies[p] + lots.next(most));
            }
        }

        void oneHour(Law by) {
            snowFalls(by);
            for (int k = 0; k < passCount; k++) {
                if (passHours[k] == hour % DAY) {
                    ploughTo(passSides[k], by);
                }
            }
            for (int g = 0; g < ownerCount; g++) {
                if (owners[g].wall != 0 && owners[g].comesIn(hour)) {
                    shovel(g, by);
                }
            }
            for (int g = 0; g < ownerCount; g++) {
                if (owners[g].wall > limit) {
                    owners[g].blocked++;
                }
            }
            hour++;
        }

        private void snowFalls(Law by) {
            tell(0, 0, 0, 0);
            int falls = by.says(Law.FALLS, facts);
            for (int p = 0; p < lies.length; p++) {
                lies[p] = Math.min(MOST_SNOW, lies[p] + falls);
            }
        }

        private void ploughTo(int side, Law by) {
            int carried = 0;
            for (int p = 0; p < lies.length; p++) {
                int has = Math.min(MOST_SNOW, lies[p] + carried);
                lies[p] = 0;
                carried = 0;
                int g = 2 * p + side;
                if (!hasOwner(g)) {
                    lost += has;
                } else if (owners[g].lifted == 1) {
                    tell(g, owners[g].more, owners[g].heap, has);
                    int drops = Math.min(has, by.says(Law.LIFTS, facts));
                    lost += drops;
                    carried = has - drops;
                } else {
                    lost += owners[g].getsBefore(has);
                }
            }
            lost += carried;
        }

        private void shovel(int g, Law by) {
            Owner one = owners[g];
            tell(g, one.more, one.heap, one.wall);
            one.minutes += one.takes(by.says(Law.TAKES, facts));
            if (one.throwsBack()) {
                int p = g / 2;
                lies[p] = Math.min(MOST_SNOW, lies[p] + one.wall);
            } else {
                one.heap = Math.min(MOST_SNOW, one.heap + one.wall);
            }
            one.wall = 0;
        }

        /** What a part of the text says, told of an OWNER. */
        int saidOf(int part, Law by, int g, int wall) {
            tell(g, owners[g].more, owners[g].heap, wall);
            return by.says(part, facts);
        }

        private void tell(int gate, int more, int heap, int wall) {
            facts[Law.HOUR_FACT] = hour;
            facts[Law.WALL_FACT] = wall;
            facts[Law.MORE_FACT] = more;
            facts[Law.HEAP_FACT] = heap;
            facts[Law.GATE_FACT] = gate;
            facts[Law.PASSES_FACT] = passCount;
        }

        int answer(int what) {
            switch (what) {
                case 0: return allMinutes();
                case 1: return allBlocked();
                case 2: return lost;
                case 3: return highestHeap();
                default: return busiest();
            }
        }

        int allMinutes() {
            int sum = 0;
            for (int g = 0; g < ownerCount; g++) {
                sum += owners[g].minutes;
            }
            return sum;
        }

        int allBlocked() {
            int sum = 0;
            for (int g = 0; g < ownerCount; g++) {
                sum += owners[g].blocked;
            }
            return sum;
        }

        int mostMinutes() {
            int g = busiest();
            return g == NONE ? 0 : owners[g].minutes;
        }

        private int highestHeap() {
            int highest = NONE;
            for (int g = 0; g < ownerCount; g++) {
                highest = Math.max(highest, owners[g].heap);
            }
            return highest;
        }

        private int busiest() {
            int best = NONE;
            int most = NONE;
            for (int g = 0; g < ownerCount; g++) {
                if (owners[g].minutes > most) {
                    most = owners[g].minutes;
                    best = g;
                }
            }
            return best;
        }

        /** The first GATE whose WALL is not as the row tells; the row has a number for each. */
        int firstOther(Sheet told) {
            for (int g = 0; g < ownerCount; g++) {
                if (told.row[g] != owners[g].wall) {
                    return g;
                }
            }
            return NONE;
        }
    }

    /** An OWNER and the GATE. */
    private static final class Owner {
        static final int OWNER = 0, STRONG = 1, CARELESS = 2, YOUNG = 3, NEIGHBOUR = 4, GREY = 5;
        private static final int[] KIND_ABOVE = {NONE, OWNER, OWNER, STRONG, CARELESS, OWNER};

        int kind;
        int more;
        int wall;
        int heap;
        private int bay;
        private int at;
        int lifted;
        int minutes;
        int blocked;

        void begin(int newKind, int newMore, int newAt) {
            kind = newKind;
            more = newMore;
            at = newAt;
            wall = 0;
            heap = 0;
            bay = 0;
            lifted = 0;
        }

        void become(Owner other) {
            kind = other.kind;
            more = other.more;
            at = other.at;
            wall = other.wall;
            heap = other.heap;
            bay = other.bay;
            lifted = other.lifted;
        }

        int number(int what) {
            switch (what) {
                case WALL: return wall;
                case HEAP: return heap;
                case BAY: return bay;
                case AT: return at;
                case LIFTED: return lifted;
                case KIND: return kind;
                default: return more;
            }
        }

        void change(int what, int v) {
            switch (what) {
                case WALL: wall = v; break;
                case HEAP: heap = v; break;
                case BAY: bay = v; break;
                case AT: at = v; break;
                case LIFTED: lifted = v; break;
                case KIND: kind = v; break;
                default: more = v; break;
            }
        }

        /** The blade leaves so much before the GATE: what the BAY takes of it. */
        int getsBefore(int snow) {
            int inBay = Math.min(bay, snow);
            wall = Math.min(MOST_SNOW, wall + snow - inBay);
            return inBay;
        }

        boolean isOf(int wanted) {
            int k = kind;
            // no more KINDS than there are can stand above one another
            for (int i = 0; i < KIND_ABOVE.length && k >= 0 && k < KIND_ABOVE.length; i++) {
                if (k == wanted) {
                    return true;
                }
                k = KIND_ABOVE[k];
            }
            return false;
        }

        int takes(int said) {
            switch (kind) {
                case STRONG: return Math.max(1, said / 2);
                case YOUNG: return Math.max(1, said / 2 - more);
                case NEIGHBOUR: return said + 2;
                case GREY: return Math.max(1, said * 2);
                default: return Math.max(1, said);
            }
        }

        boolean throwsBack() {
            switch (kind) {
                case CARELESS: return true;
                case YOUNG: return heap > 20 * more + 20;
                case NEIGHBOUR: return heap >= 10 * more;
                default: return false;
            }
        }

        boolean comesIn(int hour) {
            boolean isOnes = hour % DAY == at;
            switch (kind) {
                case STRONG:
                case YOUNG: return isOnes || hour % DAY == (at + 6) % DAY;
                case GREY: return isOnes && hour / DAY % 2 == more % 2;
                default: return isOnes;
            }
        }
    }

    /** A TEXT that was read, each part as steps on a stack: what stands later works on what stands ahead. */
    private static final class Law {
        static final int FALLS = 0, TAKES = 1, LIFTS = 2, SAID = 3;
        static final int HOUR_FACT = 0, WALL_FACT = 1, MORE_FACT = 2, HEAP_FACT = 3, GATE_FACT = 4;
        static final int PASSES_FACT = 5, FACTS = 6;
        // a step is a number 0 .. 9999, a name by its fact, or, below 0, what is done
        static final int FIRST_NAME = 10000;
        static final int OR = -1, AND = -2, NOT = -3, LESS = -4, LIKE = -5;
        static final int PLUS = -6, MINUS = -7, TIMES = -8, NEGATED = -9;

        private final int[] steps = new int[TAPE_SIZE];
        private final int[] starts = new int[SAID + 1];
        private final int[] stack = new int[TAPE_SIZE];
        private int size;

        void clear() {
            size = 0;
        }

        void add(int step) {
            if (size < steps.length) {
                steps[size] = step;
                size++;
            }
        }

        void endPart(int part) {
            starts[part + 1] = size;
        }

        int says(int part, int[] facts) {
            int high = 0;
            for (int i = starts[part]; i < starts[part + 1]; i++) {
                int step = steps[i];
                if (step >= 0 && high < stack.length) {
                    stack[high] = step < FIRST_NAME ? step : facts[step - FIRST_NAME];
                    high++;
                } else if (isOfOne(step) && high > 0) {
                    int one = stack[high - 1];
                    stack[high - 1] = step == NEGATED ? -one : one == 0 ? 1 : 0;
                } else if (high > 1) {
                    stack[high - 2] = joined(stack[high - 2], step, stack[high - 1]);
                    high--;
                }
            }
            return Math.max(0, Math.min(MOST_SAID, stack[0]));
        }

        private static boolean isOfOne(int step) {
            return step == NOT || step == NEGATED;
        }

        private static int joined(int left, int step, int right) {
            switch (step) {
                case OR: return left != 0 || right != 0 ? 1 : 0;
                case AND: return left != 0 && right != 0 ? 1 : 0;
                case LESS: return left < right ? 1 : 0;
                case LIKE: return left == right ? 1 : 0;
                case PLUS: return left + right;
                case MINUS: return left - right;
                default: return left * right;
            }
        }
    }

    /** THE TAPE, and how a TEXT is read from it; what is read always stops at the TOKEN that is at fault. */
    private static final class Reader {
        private static final String WORDS = "falls takes lifts or and not hour wall more heap gate passes ";
        // a TOKEN is a word's place among WORDS, a sign's byte, or one of these
        private static final int OR = 3, AND = 4, NOT = 5, FIRST_NAME = 6, LAST_NAME = 11;
        private static final int NUMBER = 12, END = -1, NEITHER = -2;
        private static final String SIGNS = "();+-*<=";
        private static final int MOST_OPEN = 5, MOST_DIGITS = 4;
        private static final int EITHERS = 0, BOTHS = 1, SUMS = 2, TERMS = 3;

        private final int[] tape = new int[TAPE_SIZE];
        int size;
        private int place;
        private int start;
        private int token;
        private int value;
        private Law law;

        void add(int one) {
            if (size < tape.length) {
                tape[size] = one;
                size++;
            }
        }

        void clear() {
            size = 0;
        }

        /** The place of the FAULT, or NONE. */
        int readInto(Law into) {
            law = into;
            law.clear();
            place = 0;
            next();
            for (int part = 0; part < Law.SAID; part++) {
                if (!readPart(part)) {
                    return start;
                }
            }
            return token == END ? NONE : start;
        }

        /** The KEYS of the parts are the first words, in their order. */
        private boolean readPart(int part) {
            if (token != part) {
                return false;
            }
            next();
            if (!readChain(EITHERS, 0) || token != ';') {
                return false;
            }
            next();
            law.endPart(part);
            return true;
        }

        private boolean readChain(int level, int open) {
            if (!readLink(level, open)) {
                return false;
            }
            for (int i = 0; i < size && isJoint(level); i++) {
                int step = stepOfToken();
                next();
                if (!readLink(level, open)) {
                    return false;
                }
                law.add(step);
            }
            return true;
        }

        private boolean readLink(int level, int open) {
            switch (level) {
                case EITHERS: return readChain(BOTHS, open);
                case BOTHS: return readNot(open);
                case SUMS: return readChain(TERMS, open);
                default: return readOne(open);
            }
        }

        private boolean isJoint(int level) {
            switch (level) {
                case EITHERS: return token == OR;
                case BOTHS: return token == AND;
                case SUMS: return token == '+' || token == '-';
                default: return token == '*';
            }
        }

        private int stepOfToken() {
            switch (token) {
                case OR: return Law.OR;
                case AND: return Law.AND;
                case '<': return Law.LESS;
                case '=': return Law.LIKE;
                case '+': return Law.PLUS;
                case '-': return Law.MINUS;
                default: return Law.TIMES;
            }
        }

        private boolean readNot(int open) {
            if (token == NOT) {
                if (open >= MOST_OPEN) {
                    return false;
                }
                next();
                if (!readNot(open + 1)) {
                    return false;
                }
                law.add(Law.NOT);
                return true;
            }
            if (!readChain(SUMS, open)) {
                return false;
            }
            if (token != '<' && token != '=') {
                return true;
            }
            int step = stepOfToken();
            next();
            if (!readChain(SUMS, open)) {
                return false;
            }
            law.add(step);
            return true;
        }

        private boolean readOne(int open) {
            if (token == NUMBER || token >= FIRST_NAME && token <= LAST_NAME) {
                law.add(token == NUMBER ? value : Law.FIRST_NAME + token - FIRST_NAME);
                next();
                return true;
            }
            if (token != '-' && token != '(' || open >= MOST_OPEN) {
                return false;
            }
            boolean isBracket = token == '(';
            next();
            if (isBracket) {
                return readClosed(open + 1);
            }
            if (!readOne(open + 1)) {
                return false;
            }
            law.add(Law.NEGATED);
            return true;
        }

        private boolean readClosed(int open) {
            if (!readChain(EITHERS, open) || token != ')') {
                return false;
            }
            next();
            return true;
        }

        private void next() {
            while (place < size && isBlank(tape[place])) {
                place++;
            }
            start = place;
            if (place >= size) {
                token = END;
            } else if (isLetter(tape[place])) {
                readWord();
            } else if (isDigit(tape[place])) {
                readNumber();
            } else {
                readSign();
            }
        }

        private void readWord() {
            while (place < size && isLetter(tape[place])) {
                place++;
            }
            token = NEITHER;
            int word = 0;
            int from = 0;
            for (int i = 0; i < WORDS.length(); i++) {
                if (WORDS.charAt(i) == ' ') {
                    if (isWord(from, i)) {
                        token = word;
                    }
                    word++;
                    from = i + 1;
                }
            }
        }

        private boolean isWord(int from, int end) {
            if (end - from != place - start) {
                return false;
            }
            for (int i = from; i < end; i++) {
                if (WORDS.charAt(i) != tape[start + i - from]) {
                    return false;
                }
            }
            return true;
        }

        private void readNumber() {
            value = 0;
            while (place < size && isDigit(tape[place])) {
                value = value * 10 + tape[place] - '0';
                place++;
            }
            token = place - start > MOST_DIGITS ? NEITHER : NUMBER;
        }

        private void readSign() {
            token = SIGNS.indexOf((char) tape[place]) < 0 ? NEITHER : tape[place];
            place++;
        }

        private static boolean isBlank(int one) {
            return one == 32 || one == 10;
        }

        private static boolean isLetter(int one) {
            return one >= 'a' && one <= 'z';
        }

        private static boolean isDigit(int one) {
            return one >= '0' && one <= '9';
        }
    }

    /** A row of numbers, or none. */
    private static final class Sheet {
        int sort = NONE;
        int size;
        final int[] row = new int[LARGEST_SHEET];

        boolean isMissing() {
            return sort == NONE;
        }

        void begin(int newSort, int n) {
            sort = newSort;
            size = n;
            for (int i = 0; i < row.length; i++) {
                row[i] = 0;
            }
        }

        boolean hasPlace(int i) {
            return i >= 0 && i < size;
        }

        boolean hasPlaces(int i, int n) {
            return i >= 0 && n >= 0 && n <= size - i;
        }

        void write(int i, int v) {
            row[i] = sort == BYTES ? (byte) v : sort == SHORTS ? (short) v : v;
        }
    }

    /** The LOTS of a SEED, one after the other. */
    private static final class Lots {
        private static final long TIMES = 48271L, MODULUS = 2147483647L;
        private long last;

        void begin(int seed) {
            last = seed + 1L;
        }

        int next(int most) {
            last = last * TIMES % MODULUS;
            return (int) (last % (most + 1));
        }
    }
}
