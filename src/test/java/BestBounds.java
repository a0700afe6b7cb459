/** The boundaries of promises 16 to 21: what is best. */
public final class BestBounds {
    private static final int BAD = -2;
    private static final int[] WRONG_GOALS = {-1, 2, 3, 9, 12, 19, 20, 21, -10, Sentence.LEAST, Sentence.MOST};

    private BestBounds() { }

    public static void main(String[] args) {
        when();
        dig();
        blade();
        sides();
        gains();
        helps();
        Sentence.end("BestBounds", 16, 21);
    }

    private static void due(String call, long got, long want) {
        Check.due(call, got, want);
    }

    private static ThrownBack by(String text) {
        ThrownBack x = new ThrownBack();
        x.force(Check.text(x, text));
        return x;
    }

    private static void refusedOwners(String call, int refusal, Tale.OfGate asked) {
        for (int g : Sentence.outside(0, 4)) {
            Tale.refused(call + " of OWNER " + g, refusal, x -> asked.of(x, g));
        }
        Tale.refused(Tale::full, call + " of OWNER 12 of 12", refusal, x -> asked.of(x, 12));
        Tale.refused(ThrownBack::new, call + " of OWNER 0 of none", refusal, x -> asked.of(x, 0));
    }

    /** One with a WALL of 11, and a text by which it takes so long. */
    private static ThrownBack shoveller(String takes) {
        ThrownBack x = by("falls 0;takes " + takes + ";lifts 0;");
        x.owner(0, 9);
        x.put(0, 0, 11);
        return x;
    }

    private static void when() {
        Sentence.of(16, "one's minutes in n HOURS would be fewest (goal 0)", () -> {
            ThrownBack late = shoveller("30-hour");
            due("when(0, 24, 0), by 23", late.when(0, 24, 0), 23);
            due("when(0, 24, 1), by 23", late.when(0, 24, 1), 7);
            ThrownBack early = shoveller("5+hour");
            due("when(0, 24, 0), by 0", early.when(0, 24, 0), 0);
            due("when(0, 24, 1), by 0", early.when(0, 24, 1), 5);
            due("when(0, 23, 0), by the one who doesn't come", early.when(0, 23, 0), 23);
            due("when(0, 23, 1), by the one who doesn't come", early.when(0, 23, 1), 0);
        });
        Sentence.of(16, "one's GATE would be BLOCKED in fewest (1)", () -> {
            ThrownBack x = shoveller("1");
            due("when(0, 24, 10)", x.when(0, 24, 10), 0);
            due("when(0, 24, 11)", x.when(0, 24, 11), 0);
            x.set(0, 23);
            due("when(0, 24, 10) from HOUR 23", x.when(0, 24, 10), 23);
            x.set(1, 11);
            due("when(0, 24, 10), never BLOCKED", x.when(0, 24, 10), 0);
        });
        Sentence.of(16, "of like ones the least (what 0), how many (1)", () -> {
            ThrownBack x = shoveller("5");
            due("when(0, 0, 0)", x.when(0, 0, 0), 0);
            due("when(0, 0, 1)", x.when(0, 0, 1), 0);
            due("when(0, 0, 10)", x.when(0, 0, 10), 0);
            due("when(0, 0, 11)", x.when(0, 0, 11), 0);
            due("when(0, 1, 0)", x.when(0, 1, 0), 1);
            due("when(0, 10, 0)", x.when(0, 10, 0), 10);
            due("when(0, 24, 0)", x.when(0, 24, 0), 0);
            due("when(0, 24, 1)", x.when(0, 24, 1), 5);
            x.set(0, 23);
            due("when(0, 1, 0) from HOUR 23", x.when(0, 1, 0), 0);
            due("when(0, 2, 0) from HOUR 23", x.when(0, 2, 0), 1);
        });
        Sentence.of(16, "-5: no such OWNER; -7: n, goalWhat.", () -> {
            refusedOwners("when(g, 1, 0)", -5, (x, g) -> x.when(g, 1, 0));
            refusedOwners("when(g, 49, 2)", -5, (x, g) -> x.when(g, 49, 2));
            for (int n : Sentence.outside(0, 48)) {
                Tale.refused("when(4, " + n + ", 0)", -7, x -> x.when(4, n, 0));
            }
            for (int goal : WRONG_GOALS) {
                Tale.refused("when(4, 1, " + goal + ")", -7, x -> x.when(4, 1, goal));
            }
        });
        Sentence.of(16, "What is asked changes nothing", () -> {
            for (int goal : new int[] {0, 1, 10, 11}) {
                Tale.onlyAsked("when(4, 48, " + goal + ")", x -> x.when(4, 48, goal));
            }
        });
    }

    /** At HOUR 0 so much falls and comes before GATE 0, whose OWNER shovels it so long as it is high. */
    private static ThrownBack digger(int falls) {
        ThrownBack x = by("falls " + falls + ";takes wall;lifts 0;");
        x.owner(0, 0);
        x.pass(0, 0);
        return x;
    }

    private static void dig() {
        Sentence.of(17, "The least BAY (0 .. 99) by which", () -> {
            ThrownBack x = digger(99);
            int[][] rows = {{99, 0}, {98, 1}, {97, 2}, {1, 98}, {0, 99}, {9999, 0}, {100, 0}};
            for (int[] row : rows) {
                due("dig(0, 1, " + row[0] + ")", x.dig(0, 1, row[0]), row[1]);
            }
            x.put(0, 2, 99);
            due("dig(0, 1, 98), whatever it is now", x.dig(0, 1, 98), 1);
        });
        Sentence.of(17, "would be no more than most (0 .. 9999); -1: none", () -> {
            ThrownBack x = digger(99);
            due("dig(0, 0, 0)", x.dig(0, 0, 0), 0);
            due("dig(0, 48, 9999)", x.dig(0, 48, 9999), 0);
            // one hour more had fallen onto PART 0: 100, of which even the largest leaves 1
            ThrownBack more = digger(50);
            more.set(0, 23);
            due("dig(0, 2, 0)", more.dig(0, 2, 0), -1);
            due("dig(0, 2, 1)", more.dig(0, 2, 1), 99);
            due("dig(0, 2, 2)", more.dig(0, 2, 2), 98);
            for (int most : Sentence.outside(0, 9999)) {
                Tale.refused("dig(4, 1, " + most + ")", -7, y -> y.dig(4, 1, most));
            }
        });
        Sentence.of(17, "-5: no such OWNER; -7: n, most.", () -> {
            refusedOwners("dig(g, 1, 0)", -5, (x, g) -> x.dig(g, 1, 0));
            refusedOwners("dig(g, 49, -1)", -5, (x, g) -> x.dig(g, 49, -1));
            for (int n : Sentence.outside(0, 48)) {
                Tale.refused("dig(4, " + n + ", 0)", -7, x -> x.dig(4, n, 0));
            }
        });
        Sentence.of(17, "What is asked changes nothing", () -> {
            Tale.onlyAsked("dig(4, 48, 0)", x -> x.dig(4, 48, 0));
            Tale.onlyAsked("dig(0, 48, 9999)", x -> x.dig(0, 48, 9999));
        });
    }

    /** So many OWNERS who shovel in HOUR 0, when a PASS comes to a side; all of the blade's is lost by lifting. */
    private static ThrownBack lifters(int many, int side) {
        ThrownBack x = by("falls 2;takes 5;lifts 99;");
        for (int g = 0; g < many; g++) {
            x.owner(0, 0);
        }
        x.pass(0, side);
        return x;
    }

    private static void blade() {
        Sentence.of(18, "if fewer than now, of like ones the first (what 0; -1: none), how many (1; as now)", () -> {
            ThrownBack x = lifters(12, 0);
            due("blade(1, 0), like ones", x.blade(1, 0), 0);
            due("blade(1, 1), like ones", x.blade(1, 1), 25);
            due("blade(0, 0), no fewer", x.blade(0, 0), -1);
            due("blade(0, 1), no fewer", x.blade(0, 1), 0);
            x.put(0, 4, 1);
            due("blade(1, 0), the first that isn't LIFTED", x.blade(1, 0), 2);
            due("blade(1, 1), the first that isn't LIFTED", x.blade(1, 1), 20);
            for (int g = 2; g < 12; g += 2) {
                x.put(g, 4, 1);
            }
            due("blade(1, 0), all LIFTED", x.blade(1, 0), -1);
            due("blade(1, 1), all LIFTED", x.blade(1, 1), 0);
        });
        Sentence.of(18, "The GATE by which, were it LIFTED, minutes of all in n HOURS would be fewest", () -> {
            ThrownBack x = lifters(12, 1);
            for (int g = 1; g < 11; g++) {
                x.put(g, 2, 2);
            }
            due("blade(1, 0), the last", x.blade(1, 0), 11);
            due("blade(1, 1), the last", x.blade(1, 1), 0);
            ThrownBack one = lifters(1, 0);
            due("blade(1, 0) of one", one.blade(1, 0), 0);
            due("blade(1, 1) of one", one.blade(1, 1), 0);
            // carried before another GATE it takes no fewer minutes: as many
            ThrownBack no = by("falls 2;takes 5;lifts 0;");
            no.owner(0, 23);
            no.owner(0, 0);
            no.owner(0, 0);
            no.pass(0, 0);
            due("blade(1, 0), as many", no.blade(1, 0), 2);
            no.put(2, 4, 1);
            due("blade(1, 0), as many", no.blade(1, 0), -1);
            due("blade(1, 1), as many", no.blade(1, 1), 0);
        });
        Sentence.of(18, "-1: none", () -> {
            due("blade(48, 0) of no OWNERS", new ThrownBack().blade(48, 0), -1);
            due("blade(48, 1) of no OWNERS", new ThrownBack().blade(48, 1), 0);
        });
        Sentence.of(18, "BAD.", () -> {
            for (int n : Sentence.outside(0, 48)) {
                Tale.refused("blade(" + n + ", 0)", BAD, x -> x.blade(n, 0));
            }
            for (int what : Sentence.outside(0, 1)) {
                Tale.refused("blade(1, " + what + ")", BAD, x -> x.blade(1, what));
            }
        });
        Sentence.of(18, "What is asked changes nothing", () -> {
            Tale.onlyAsked("blade(48, 0)", x -> x.blade(48, 0));
            Tale.onlyAsked("blade(48, 1)", x -> x.blade(48, 1));
        });
    }

    private static void sides() {
        Sentence.of(19, "Of all SIDES of the PASSES (bits: 1 to the right)", () -> {
            // one GATE of the left, BLOCKED by anything before it: only what comes to the right spares it
            ThrownBack x = by("falls 2;takes 5;lifts 0;");
            x.set(1, 0);
            x.owner(0, 23);
            due("sides(6, 0) of no PASSES", x.sides(6, 0), 0);
            due("sides(6, 1) of no PASSES", x.sides(6, 1), 0);
            for (int k = 0; k < 6; k++) {
                x.pass(k, 0);
                due("sides(6, 0) of " + (k + 1) + " PASSES", x.sides(6, 0), (2 << k) - 1);
                due("sides(6, 1) of " + (k + 1) + " PASSES", x.sides(6, 1), 0);
            }
            due("sides(5, 0): the sixth does not come", x.sides(5, 0), 31);
            due("sides(0, 0)", x.sides(0, 0), 0);
            due("sides(0, 1)", x.sides(0, 1), 0);
        });
        Sentence.of(19, "of like ones the least as bits (what 0), how many (1)", () -> {
            // GATE 0 is BLOCKED all the while, GATE 1 by what comes to the right: nothing else matters
            ThrownBack x = by("falls 2;takes 5;lifts 0;");
            x.owner(0, 23);
            x.owner(0, 23);
            x.put(0, 0, 500);
            for (int k = 0; k < 6; k++) {
                x.pass(k, 1);
            }
            x.set(1, 1);
            due("sides(6, 0)", x.sides(6, 0), 0);
            due("sides(6, 1)", x.sides(6, 1), 6);
            x.set(1, 999);
            due("sides(6, 0), none BLOCKED", x.sides(6, 0), 0);
            x.put(0, 0, 0);
            x.put(1, 0, 500);
            x.set(1, 1);
            due("sides(6, 0), to the right", x.sides(6, 0), 63);
            due("sides(5, 0), to the right", x.sides(5, 0), 31);
        });
        Sentence.of(19, "the most minutes of any OWNER would be fewest (1; 0, if there are none)", () -> {
            ThrownBack none = new ThrownBack();
            for (int k = 0; k < 6; k++) {
                none.pass(k, 1);
            }
            due("sides(48, 10) of no OWNERS", none.sides(48, 10), 0);
            due("sides(48, 11) of no OWNERS", none.sides(48, 11), 0);
            due("sides(48, 0) of no OWNERS", none.sides(48, 0), 0);
            due("sides(48, 1) of no OWNERS", none.sides(48, 1), 0);
            // two shovel at HOUR 5, the first a WALL of 5, the second one of 9 besides; what comes is shared best as far as it can be
            ThrownBack x = by("falls 2;takes wall;lifts 0;");
            x.owner(0, 5);
            x.owner(0, 5);
            x.put(0, 0, 5);
            x.put(1, 0, 9);
            x.pass(0, 1);
            x.pass(1, 1);
            due("sides(6, 10)", x.sides(6, 10), 0);
            due("sides(6, 11)", x.sides(6, 11), 9);
            x.put(0, 0, 8);
            due("sides(6, 10), one each", x.sides(6, 10), 1);
            due("sides(6, 11), one each", x.sides(6, 11), 11);
            x.put(0, 0, 20);
            due("sides(6, 10), both to the right", x.sides(6, 10), 3);
            due("sides(6, 11), both to the right", x.sides(6, 11), 20);
        });
        Sentence.of(19, "BAD.", () -> {
            for (int n : Sentence.outside(0, 48)) {
                Tale.refused("sides(" + n + ", 0)", BAD, x -> x.sides(n, 0));
            }
            for (int goal : WRONG_GOALS) {
                Tale.refused("sides(1, " + goal + ")", BAD, x -> x.sides(1, goal));
            }
        });
        Sentence.of(19, "What is asked changes nothing", () -> {
            for (int goal : new int[] {0, 1, 10, 11}) {
                Tale.onlyAsked("sides(48, " + goal + ")", x -> x.sides(48, goal));
            }
        });
    }

    private static void gains() {
        Sentence.of(20, "how many minutes less one had in n HOURS (what 0), how many more all others had, together (1)", () -> {
            // what the first throws into the road comes before GATES 1 and 3, LIFTED or not
            ThrownBack x = by("falls 0;takes wall;lifts 4;");
            for (int g = 0; g < 4; g++) {
                x.owner(g == 0 ? 58 : 0, g == 0 ? 0 : 1);
            }
            x.put(0, 0, 10);
            x.put(1, 4, 1);
            x.pass(1, 1);
            due("gains(0, 0, 0)", x.gains(0, 0, 0), 0);
            due("gains(0, 0, 1)", x.gains(0, 0, 1), 0);
            due("gains(0, 1, 0)", x.gains(0, 1, 0), 10);
            due("gains(0, 1, 1)", x.gains(0, 1, 1), 0);
            due("gains(0, 2, 1)", x.gains(0, 2, 1), 6);
            due("gains(0, 48, 1)", x.gains(0, 48, 1), 6);
            due("gains(3, 48, 0), no gain", x.gains(3, 48, 0), 0);
            x.put(1, 4, 0);
            due("gains(0, 2, 1), before the nearer one", x.gains(0, 2, 1), 10);
        });
        Sentence.of(20, "how many minutes less one had", () -> {
            // below 0: a STRONG one loses; the others have fewer, if one no longer comes by a STRONG one's hours
            ThrownBack x = by("falls 0;takes wall;lifts 0;");
            x.owner(10, 0);
            x.put(0, 0, 99);
            due("gains(0, 1, 0) of a STRONG one", x.gains(0, 1, 0), 49 - 99);
            x.put(0, 3, 18);
            due("gains(0, 1, 0) of one who came too late", x.gains(0, 1, 0), 49);
            ThrownBack young = by("falls 0;takes wall;lifts 0;");
            young.owner(39, 18);
            young.owner(0, 1);
            young.put(0, 0, 30);
            young.put(0, 1, 999);
            young.pass(1, 1);
            due("gains(0, 2, 1): then none is thrown in HOUR 0", young.gains(0, 2, 1), -30);
        });
        Sentence.of(20, "-1000005: no such OWNER; -1000007: n, what.", () -> {
            refusedOwners("gains(g, 1, 0)", -1000005, (x, g) -> x.gains(g, 1, 0));
            refusedOwners("gains(g, 49, 2)", -1000005, (x, g) -> x.gains(g, 49, 2));
            for (int n : Sentence.outside(0, 48)) {
                Tale.refused("gains(4, " + n + ", 0)", -1000007, x -> x.gains(4, n, 0));
            }
            for (int what : Sentence.outside(0, 1)) {
                Tale.refused("gains(4, 1, " + what + ")", -1000007, x -> x.gains(4, 1, what));
            }
        });
        Sentence.of(20, "What is asked changes nothing", () -> {
            for (int what = 0; what < 2; what++) {
                ThrownBack asked = Tale.some();
                asked.gains(4, 48, what);
                Tale.same("gains(4, 48, " + what + ")", asked, Tale.some());
            }
        });
    }

    private static void helps() {
        Sentence.of(21, "The other OWNER by whom", () -> {
            // all have a WALL of 20, but the last of 18: a STRONG one takes 10 or 9
            ThrownBack x = by("falls 0;takes wall;lifts 0;");
            for (int g = 0; g < 12; g++) {
                x.owner(10, 0);
                x.put(g, 0, g == 11 ? 18 : 20);
            }
            due("helps(0, 1, 0), the last", x.helps(0, 1, 0), 11);
            due("helps(0, 1, 1), the last", x.helps(0, 1, 1), 19);
            x.put(0, 0, 18);
            due("helps(11, 1, 0), the first", x.helps(11, 1, 0), 0);
            due("helps(11, 1, 1), the first", x.helps(11, 1, 1), 18);
            due("helps(0, 1, 0), not oneself", x.helps(0, 1, 0), 11);
        });
        Sentence.of(21, "were that one of one's own KIND and MORE", () -> {
            // YOUNG with MORE 3, who takes half of 20 less 3; the other's MORE of 9 would be below it
            ThrownBack x = by("falls 0;takes wall;lifts 0;");
            x.owner(33, 0);
            x.owner(9, 0);
            x.put(1, 0, 20);
            due("helps(0, 1, 1)", x.helps(0, 1, 1), 7);
            due("helps(1, 1, 1)", x.helps(1, 1, 1), 20);
            x.put(0, 0, 20);
            due("helps(0, 1, 1), both", x.helps(0, 1, 1), 14);
            due("helps(1, 1, 1), both", x.helps(1, 1, 1), 40);
        });
        Sentence.of(21, "of like ones the first (what 0), how many (1)", () -> {
            ThrownBack x = by("falls 0;takes wall;lifts 0;");
            for (int g = 0; g < 12; g++) {
                x.owner(10, 0);
            }
            due("helps(0, 48, 0)", x.helps(0, 48, 0), 1);
            due("helps(1, 48, 0)", x.helps(1, 48, 0), 0);
            due("helps(11, 0, 0)", x.helps(11, 0, 0), 0);
            due("helps(11, 0, 1)", x.helps(11, 0, 1), 0);
            x.put(11, 0, 999);
            due("helps(11, 1, 1), of both", x.helps(11, 1, 1), 49);
            due("helps(5, 1, 0)", x.helps(5, 1, 0), 0);
            due("helps(5, 1, 1)", x.helps(5, 1, 1), 0);
        });
        Sentence.of(21, "-1: there is none", () -> {
            ThrownBack x = new ThrownBack();
            x.owner(0, 0);
            due("helps(0, 48, 0) of one", x.helps(0, 48, 0), -1);
            due("helps(0, 48, 1) of one", x.helps(0, 48, 1), -1);
            due("helps(0, 49, 0) of one", x.helps(0, 49, 0), -7);
            due("helps(0, 1, 2) of one", x.helps(0, 1, 2), -7);
            due("helps(1, 1, 0) of one", x.helps(1, 1, 0), -5);
            x.owner(0, 0);
            due("helps(0, 48, 0) of two", x.helps(0, 48, 0), 1);
            due("helps(0, 0, 1) of two", x.helps(0, 0, 1), 0);
        });
        Sentence.of(21, "-5: no such OWNER; -7: n, what.", () -> {
            refusedOwners("helps(g, 1, 0)", -5, (x, g) -> x.helps(g, 1, 0));
            refusedOwners("helps(g, 49, 2)", -5, (x, g) -> x.helps(g, 49, 2));
            for (int n : Sentence.outside(0, 48)) {
                Tale.refused("helps(4, " + n + ", 0)", -7, x -> x.helps(4, n, 0));
            }
            for (int what : Sentence.outside(0, 1)) {
                Tale.refused("helps(4, 1, " + what + ")", -7, x -> x.helps(4, 1, what));
            }
        });
        Sentence.of(21, "What is asked changes nothing", () -> {
            Tale.onlyAsked("helps(4, 48, 0)", x -> x.helps(4, 48, 0));
            Tale.onlyAsked("helps(0, 48, 1)", x -> x.helps(0, 48, 1));
        });
    }
}
