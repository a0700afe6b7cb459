import java.math.BigInteger;

/** The boundaries of promises 27 to 30: winters by lots and images. */
public final class WinterBounds {
    private static final int BAD = -2;
    private static final int STATE = -3;
    private static final long NO = -4611686018427387904L;

    private WinterBounds() { }

    public static void main(String[] args) {
        drawn();
        lots();
        odds();
        image();
        back();
        Sentence.end("WinterBounds", 27, 30);
    }

    private static void due(String call, long got, long want) {
        Check.due(call, got, want);
    }

    private static ThrownBack by(String text) {
        ThrownBack x = new ThrownBack();
        x.force(Check.text(x, text));
        return x;
    }

    /** Lot number i (from 0 on) of a SEED, modulo (most and 1). */
    private static int lot(int seed, int i, int most) {
        BigInteger modulus = BigInteger.valueOf(2147483647);
        BigInteger times = BigInteger.valueOf(48271).modPow(BigInteger.valueOf(i + 1), modulus);
        BigInteger lot = BigInteger.valueOf(seed).add(BigInteger.ONE).multiply(times).mod(modulus);
        return lot.mod(BigInteger.valueOf(most + 1)).intValue();
    }

    private static void drawn() {
        Sentence.of(27, "WINTERS by a SEED (0 .. 99999), in thought", () -> {
            ThrownBack x = by("falls 0;takes wall;lifts 0;");
            x.owner(0, 0);
            x.pass(0, 0);
            for (int seed : new int[] {0, 1, 44487, 44488, 99998, 99999}) {
                due("drawn(" + seed + ", 1, 993)", x.drawn(seed, 1, 993), lot(seed, 0, 99));
            }
            for (int seed : Sentence.outside(0, 99999)) {
                Tale.refused("drawn(" + seed + ", 1, 0)", BAD, y -> y.drawn(seed, 1, 0));
            }
        });
        Sentence.of(27, "n HOURS (mostWhat: 10 times most, and what): what 0 .. 4 as of run()", () -> {
            ThrownBack x = Tale.some();
            for (int what = 0; what < 5; what++) {
                for (int n : new int[] {0, 1, 47, 48}) {
                    due("drawn(5, " + n + ", " + what + "), no lot above 0", x.drawn(5, n, what), x.run(n, what));
                }
                due("drawn(5, 0, " + (990 + what) + ")", x.drawn(5, 0, 990 + what), x.run(0, what));
                due("drawn(5, 48, " + (990 + what) + ") of none", new ThrownBack().drawn(5, 48, 990 + what), what < 3 ? 0 : -1);
            }
            for (int n : Sentence.outside(0, 48)) {
                Tale.refused("drawn(5, " + n + ", 0)", BAD, y -> y.drawn(5, n, 0));
            }
        });
        Sentence.of(27, "(most 0 .. 99; 999 at most lies there)", () -> {
            for (int mostWhat : new int[] {-1, -10, 5, 9, 15, 19, 985, 989, 995, 999, 1000, 1004, Sentence.LEAST, Sentence.MOST}) {
                Tale.refused("drawn(5, 1, " + mostWhat + ")", BAD, x -> x.drawn(5, 1, mostWhat));
            }
            int lot = lot(5, 0, 99);
            for (int lies : new int[] {998 - lot, 999 - lot, 1000 - lot, 999}) {
                // so much lies on PART 0, as a CARELESS one threw it there; then all that lies there is shovelled
                ThrownBack x = by("falls 0;takes 1;lifts 0;");
                x.owner(20, 0);
                x.owner(0, 1);
                x.put(0, 0, lies);
                x.live();
                x.pass(1, 1);
                due("told(0, 7)", x.told(0, 7), lies);
                due("drawn(5, 1, 993), onto " + lies, x.drawn(5, 1, 993), Math.min(999, lies + lot));
            }
        });
        Sentence.of(27, "What is asked changes nothing", () -> {
            for (int what = 0; what < 5; what++) {
                int asked = 990 + what;
                Tale.onlyAsked("drawn(99999, 48, " + asked + ")", x -> x.drawn(99999, 48, asked));
            }
        });
    }

    /** What of the lots of so many hours comes before GATE 2p, whose OWNER shovels it onto the HEAP in the last of them. */
    private static int heapOf(int p, int hours, int seed, int most) {
        ThrownBack x = by("falls 0;takes 1;lifts 0;");
        for (int g = 0; g < 12; g++) {
            x.owner(0, g == 2 * p ? hours - 1 : hours);
        }
        x.pass(hours - 1, 0);
        return x.drawn(seed, hours, 10 * most + 3);
    }

    private static void lots() {
        Sentence.of(27, "in each HOUR, ahead of all, so much more lies on each PART, by numbers, as a LOT modulo (most and 1) is", () -> {
            for (int p = 0; p < 6; p++) {
                for (int most : new int[] {0, 1, 9, 98, 99}) {
                    due("PART " + p + " in one HOUR, most " + most, heapOf(p, 1, 77, most), lot(77, p, most));
                    int three = lot(77, p, most) + lot(77, 6 + p, most) + lot(77, 12 + p, most);
                    due("PART " + p + " in three HOURS, most " + most, heapOf(p, 3, 77, most), three);
                }
            }
        });
        Sentence.of(27, "the first is (SEED and 1) times 48271 modulo 2147483647, each further one the last times 48271 modulo 2147483647", () -> {
            for (int seed : new int[] {0, 44487, 44488, 99999}) {
                for (int p = 0; p < 6; p++) {
                    due("PART " + p + " of SEED " + seed, heapOf(p, 1, seed, 99), lot(seed, p, 99));
                }
            }
            // ten HOURS: lots 5, 11, .. 59 come onto PART 5
            int sum = 0;
            for (int i = 0; i < 10; i++) {
                sum += lot(99999, 5 + 6 * i, 99);
            }
            due("PART 5 in ten HOURS", heapOf(5, 10, 99999, 99), sum);
        });
    }

    /** GATE 0 is BLOCKED in HOUR 0 by a lot above 4: of SEEDS 0, 1, 2 .. lots modulo 10 are 1, 2, 3 .. 9, 0, 1 .. */
    private static ThrownBack gate() {
        ThrownBack x = by("falls 0;takes 1;lifts 0;");
        x.owner(0, 23);
        x.pass(0, 0);
        x.set(1, 4);
        return x;
    }

    private static void odds() {
        Sentence.of(28, "100 times how many (0 .. 48) HOURS, and how many (1 .. 20) seeds", () -> {
            ThrownBack x = gate();
            due("odds(0, 1, 0, 9, 0)", x.odds(0, 1, 0, 9, 0), 1);
            due("odds(9, 20, 0, 9, 1)", x.odds(0, 20, 0, 9, 1), 1);
            due("odds(4, 101, 0, 9, 0)", x.odds(4, 101, 0, 9, 0), 0);
            due("odds(4, 4801, 0, 9, 1)", x.odds(4, 4801, 0, 9, 1), 1);
            due("odds(4, 4820, 0, 9, 0)", x.odds(4, 4820, 0, 9, 0), 0);
            for (int wrong : new int[] {0, 100, 4800, 21, 99, 121, 4821, 4899, 4900, 4901, 4920, -1, -80, -99, -100, -101,
                Sentence.LEAST, Sentence.MOST}) {
                refusedOdds("odds(4, " + wrong + ", 0, 9, 0)", y -> y.odds(4, wrong, 0, 9, 0));
            }
        });
        Sentence.of(28, "In how many of these, SEED and each 1 more, a GATE is BLOCKED in no HOUR", () -> {
            ThrownBack x = gate();
            for (int seed : new int[] {0, 3, 4, 9}) {
                for (int many = 1; many <= 20; many++) {
                    int above = 0;
                    for (int i = 0; i < many; i++) {
                        above += lot(seed + i, 0, 9) <= 4 ? 1 : 0;
                    }
                    int common = BigInteger.valueOf(above).gcd(BigInteger.valueOf(many)).intValue();
                    due("odds(" + seed + ", " + (100 + many) + ", 0, 9, 0)", x.odds(seed, 100 + many, 0, 9, 0), above / common);
                    due("odds(" + seed + ", " + (100 + many) + ", 0, 9, 1)", x.odds(seed, 100 + many, 0, 9, 1), many / common);
                }
            }
        });
        Sentence.of(28, "part 0 above, 1 below the line, in lowest terms", () -> {
            ThrownBack x = gate();
            int[][] rows = {{0, 104, 1, 1}, {4, 105, 0, 1}, {0, 106, 2, 3}, {0, 110, 1, 2}, {0, 112, 7, 12}, {0, 119, 9, 19},
                {0, 120, 1, 2}, {4, 101, 0, 1}, {4, 106, 1, 6}};
            for (int[] row : rows) {
                due("odds(" + row[0] + ", " + row[1] + ", 0, 9, 0)", x.odds(row[0], row[1], 0, 9, 0), row[2]);
                due("odds(" + row[0] + ", " + row[1] + ", 0, 9, 1)", x.odds(row[0], row[1], 0, 9, 1), row[3]);
            }
            for (int part : Sentence.outside(0, 1)) {
                refusedOdds("odds(4, 101, 0, 9, " + part + ")", y -> y.odds(4, 101, 0, 9, part));
            }
        });
        Sentence.of(28, "WINTERS by a SEED (0 .. 99999)", () -> {
            due("odds(0, 1, 0, 9, 0)", gate().odds(0, 1, 0, 9, 0), 1);
            due("odds(99999, 1, 0, 9, 0)", gate().odds(99999, 1, 0, 9, 0), 1);
            for (int seed : Sentence.outside(0, 99999)) {
                refusedOdds("odds(" + seed + ", 101, 0, 9, 0)", y -> y.odds(seed, 101, 0, 9, 0));
            }
        });
        Sentence.of(28, "(most 0 .. 99; 999 at most lies there)", () -> {
            ThrownBack x = gate();
            due("odds(4, 101, 0, 0, 0), no lot above 0", x.odds(4, 101, 0, 0, 0), 1);
            due("odds(4, 101, 0, 9, 0), a lot of 5", x.odds(4, 101, 0, 9, 0), 0);
            x.set(1, lot(4, 0, 99));
            due("odds(4, 101, 0, 99, 0), not above", x.odds(4, 101, 0, 99, 0), 1);
            x.set(1, lot(4, 0, 99) - 1);
            due("odds(4, 101, 0, 99, 0), above", x.odds(4, 101, 0, 99, 0), 0);
            for (int most : Sentence.outside(0, 99)) {
                refusedOdds("odds(4, 101, 0, " + most + ", 0)", y -> y.odds(4, 101, 0, most, 0));
            }
        });
        Sentence.of(28, "NO: none such.", () -> {
            for (int g : Sentence.outside(0, 4)) {
                refusedOdds("odds(4, 101, " + g + ", 9, 0)", y -> y.odds(4, 101, g, 9, 0));
            }
            Tale.refused(Tale::full, "odds(4, 101, 12, 9, 0) of 12", NO, x -> x.odds(4, 101, 12, 9, 0));
            Tale.refused(ThrownBack::new, "odds(4, 101, 0, 9, 0) of none", NO, x -> x.odds(4, 101, 0, 9, 0));
            due("odds(4, 1, 11, 9, 0) of 12", Tale.full().odds(4, 1, 11, 9, 0), 1);
            due("NO", ThrownBack.NO, NO);
        });
        Sentence.of(28, "What is asked changes nothing", () -> {
            Tale.onlyAsked("odds(99999, 4820, 4, 99, 0)", x -> x.odds(99999, 4820, 4, 99, 0));
            Tale.onlyAsked("odds(99999, 4820, 4, 99, 1)", x -> x.odds(99999, 4820, 4, 99, 1));
        });
    }

    private static void refusedOdds(String name, Tale.Call call) {
        Tale.refused(name, NO, call);
    }

    private static void image() {
        Sentence.of(29, "AN IMAGE is kept: how many OWNERS", () -> {
            ThrownBack x = new ThrownBack();
            due("image() of none", x.image(), 0);
            for (int g = 0; g < 12; g++) {
                x.owner(0, g);
                due("image() of " + (g + 1), x.image(), g + 1);
            }
            due("back()", x.back(), 12);
        });
        Sentence.of(29, "What is asked changes nothing, but where it is told", () -> {
            ThrownBack once = Tale.some();
            once.image();
            ThrownBack twice = Tale.some();
            twice.image();
            twice.image();
            Tale.same("image() again", twice, once);
        });
    }

    /** All that an IMAGE keeps becomes otherwise, and what it doesn't. */
    private static void turn(ThrownBack x) {
        for (int g = 0; g < x.count(0); g++) {
            for (int what = 0; what < 5; what++) {
                x.put(g, what, x.told(g, what) == 0 ? 1 : 0);
            }
        }
        x.owner(57, 23);
        x.pass(23, 1);
        for (int k = 0; k < 2; k++) {
            x.move(k, 22, 1 - x.comes(k) % 10);
        }
        x.set(0, 90);
        x.set(1, 998);
        x.force(0);
        x.live();
    }

    private static void back() {
        Sentence.of(30, "STATE: there is none.", () -> {
            Tale.refused(ThrownBack::new, "back() of a new object", STATE, ThrownBack::back);
            Tale.refused(WinterBounds::withoutImage, "back() without an IMAGE", STATE, ThrownBack::back);
        });
        Sentence.of(30, "AN IMAGE keeps WALLS, HEAPS, BAYS, ONE'S HOURS, LIFTED, how many OWNERS there are, what lies on THE ROAD, PASSES, THE HOUR, THE LIMIT, THE LAW", () -> {
            ThrownBack turned = Tale.some();
            turned.image();
            turn(turned);
            due("count(0)", turned.count(0), 6);
            due("count(1)", turned.count(1), 4);
            due("back()", turned.back(), 5);
            ThrownBack other = Tale.some();
            other.image();
            Tale.same("turn() and back()", turned, other);
        });
        Sentence.of(30, "All that it keeps is as in THE IMAGE, OWNERS that came since are none: how many there are", () -> {
            ThrownBack x = new ThrownBack();
            x.image();
            for (int g = 0; g < 12; g++) {
                x.owner(0, 0);
                x.put(g, 0, 50);
            }
            for (int k = 0; k < 6; k++) {
                x.pass(0, 0);
            }
            x.live();
            due("back() to none", x.back(), 0);
            due("told(0, 0)", x.told(0, 0), -5);
            due("comes(0)", x.comes(0), -6);
            due("count(2)", x.count(2), 0);
            due("taken(12, 6)", x.taken(12, 6), 0);
            due("taken(0, 0)", x.taken(0, 0), -11);
            Tale.same("all that came and went", x, imaged());
        });
        Sentence.of(30, "All that it keeps", () -> {
            // what it doesn't keep stays: TEXTS, THE TAPE, SHEETS; and THE IMAGE itself
            ThrownBack x = new ThrownBack();
            x.image();
            Check.text(x, "falls 7;takes 1;lifts 0;");
            x.feed(3, 1, 1, 1, 1, 1);
            x.sheet(0, 0, 5);
            due("back()", x.back(), 0);
            due("count(4)", x.count(4), 2);
            due("count(6)", x.count(6), 3);
            due("cell(0, 4, 1)", x.cell(0, 4, 1), 1);
            due("cell(0, 5, 1)", x.cell(0, 5, 1), -12);
            due("force(1)", x.force(1), 0);
            x.owner(0, 0);
            due("back() again", x.back(), 0);
            due("count(5)", x.count(5), 0);
        });
    }

    private static ThrownBack withoutImage() {
        ThrownBack x = new ThrownBack();
        x.owner(12, 4);
        x.pass(4, 0);
        x.live();
        x.sheet(0, 0, 4);
        return x;
    }

    private static ThrownBack imaged() {
        ThrownBack x = new ThrownBack();
        x.image();
        return x;
    }
}
