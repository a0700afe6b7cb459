/** The boundaries of promises 14 and 15: an hour, the kinds in it, hours in thought. */
public final class HourBounds {
    private static final int BAD = -2;
    private static final int FULL = -4;

    private HourBounds() { }

    public static void main(String[] args) {
        snow();
        passes();
        gates();
        lifted();
        bays();
        shovels();
        takes();
        throwsBack();
        comes();
        blocked();
        hour();
        run();
        answers();
        ofOwners();
        Sentence.end("HourBounds", 14, 15);
    }

    private static void due(String call, long got, long want) {
        Check.due(call, got, want);
    }

    private static ThrownBack by(String text) {
        ThrownBack x = new ThrownBack();
        x.force(Check.text(x, text));
        return x;
    }

    /** So many OWNERS who never come in the first hours (at HOUR 23). */
    private static ThrownBack gates(ThrownBack x, int many) {
        for (int g = 0; g < many; g++) {
            x.owner(0, 23);
        }
        return x;
    }

    /** So much lies on PART 0, as a CARELESS one, GATE 0, threw it there, by a text that says HOUR falls; none elsewhere. */
    private static ThrownBack lying(int much, String lifts) {
        ThrownBack x = by("falls hour;takes 1;lifts " + lifts + ";");
        x.owner(20, 0);
        x.put(0, 0, much);
        x.live();
        x.put(0, 3, 23);
        due("PART 0", x.taken(12, 6), much);
        x.set(0, 0);
        return x;
    }

    private static void snow() {
        Sentence.of(14, "first falls more lies on each PART (999 at most)", () -> {
            int[][] rows = {{0, 999, 999}, {1, 998, 999}, {1, 999, 999}, {2, 998, 999}, {99, 901, 999}, {99, 900, 999}, {98, 900, 998}};
            for (int[] row : rows) {
                ThrownBack x = lying(row[1], "0");
                x.set(0, row[0]);
                x.put(0, 3, (row[0] + 1) % 24);
                x.live();
                due(row[0] + " onto " + row[1], x.taken(12, 6), row[2]);
                for (int p = 1; p < 6; p++) {
                    due(row[0] + " onto 0", x.taken(12 + p, 6), row[0]);
                }
            }
        });
        Sentence.of(14, "of falls more, heap, gate, wall 0", () -> {
            ThrownBack x = by("falls 1+wall+more+heap+gate;takes 1;lifts 0;");
            x.owner(9, 23);
            x.owner(9, 23);
            x.put(0, 0, 5);
            x.put(0, 1, 5);
            x.live();
            due("PART 0", x.taken(12, 6), 1);
        });
    }

    private static void passAt(int at, int hour, boolean comes) {
        ThrownBack x = gates(by("falls 1;takes 1;lifts 0;"), 1);
        x.pass(at, 0);
        x.set(0, hour);
        x.put(0, 3, (hour + 1) % 24);
        x.live();
        due("WALL, a PASS of " + at + " in HOUR " + hour, x.told(0, 0), comes ? 1 : 0);
        due("PART 0, a PASS of " + at + " in HOUR " + hour, x.taken(12, 6), comes ? 0 : 1);
    }

    private static void passes() {
        Sentence.of(14, "each PASS whose hour THE HOUR modulo 24 is", () -> {
            passAt(0, 0, true);
            passAt(0, 24, true);
            passAt(0, 96, true);
            passAt(0, 1, false);
            passAt(0, 23, false);
            passAt(23, 23, true);
            passAt(23, 47, true);
            passAt(23, 95, true);
            passAt(23, 22, false);
            passAt(23, 24, false);
            passAt(3, 99, true);
        });
        Sentence.of(14, "is, by numbers: PART by PART, from 0 on", () -> {
            ThrownBack x = gates(by("falls 5;takes 1;lifts 0;"), 2);
            x.pass(0, 1);
            x.pass(0, 0);
            x.live();
            due("the first has all", x.told(1, 0), 5);
            due("the second has nothing", x.told(0, 0), 0);
        });
        Sentence.of(14, "what it carries from the one ahead (0 at first), together (999 at most); nothing lies there then", () -> {
            int[][] rows = {{996, 997}, {997, 998}, {998, 999}, {999, 999}};
            for (int[] row : rows) {
                // 1 falls at HOUR 1; GATE 0 is LIFTED, so GATE 2 has the 1 of PART 1 and so much of PART 0
                ThrownBack x = gates(lying(row[0] - 1, "0"), 2);
                x.set(0, 1);
                x.put(0, 4, 1);
                x.pass(1, 0);
                x.live();
                due("WALL of 2, of " + row[0] + " and 1", x.told(2, 0), row[1]);
                for (int p = 0; p < 6; p++) {
                    due("PART " + p, x.taken(12 + p, 6), 0);
                }
            }
        });
        Sentence.of(14, "What is carried behind PART 5 is LOST", () -> {
            ThrownBack x = gates(by("falls 3;takes 1;lifts 0;"), 12);
            for (int g = 1; g < 12; g += 2) {
                x.put(g, 4, 1);
            }
            x.pass(0, 1);
            due("run(1, 2), all LIFTED", x.run(1, 2), 18);
            x.put(11, 4, 0);
            due("run(1, 2), but the last", x.run(1, 2), 0);
            due("run(1, 61)", x.run(1, 61), 18);
            x.put(9, 4, 0);
            due("run(1, 59)", x.run(1, 59), 15);
            due("run(1, 61)", x.run(1, 61), 3);
        });
    }

    private static void gates() {
        Sentence.of(14, "If there is no GATE at this PART on the SIDE, all that is LOST", () -> {
            for (int many = 0; many <= 12; many++) {
                for (int side = 0; side < 2; side++) {
                    ThrownBack x = gates(by("falls 3;takes 1;lifts 0;"), many);
                    x.pass(0, side);
                    int there = (many + 1 - side) / 2;
                    due("LOST with " + many + " GATES, SIDE " + side, x.run(1, 2), 18 - 3 * there);
                    x.live();
                    for (int g = 0; g < many; g++) {
                        due("WALL " + g + " of " + many + ", SIDE " + side, x.told(g, 0), g % 2 == side ? 3 : 0);
                    }
                }
            }
            // what is carried, too
            ThrownBack x = gates(by("falls 3;takes 1;lifts 0;"), 1);
            x.put(0, 4, 1);
            x.pass(0, 0);
            due("LOST behind a LIFTED one", x.run(1, 2), 18);
        });
    }

    private static void lifted() {
        Sentence.of(14, "lifts of it, but no more than there is, is LOST, the rest is carried on", () -> {
            // GATES 0, 1, 2: 5 of PART 0 and PART 1, so that GATE 2 has 5 and what is carried; 20 LOST behind it
            int[][] rows = {{0, 0, 10}, {1, 1, 9}, {4, 4, 6}, {5, 5, 5}, {6, 5, 5}, {99, 5, 5}};
            for (int[] row : rows) {
                ThrownBack x = gates(by("falls 5;takes 1;lifts " + row[0] + ";"), 3);
                x.put(0, 4, 1);
                x.pass(0, 0);
                due("LOST, lifts " + row[0], x.run(1, 2), 20 + row[1]);
                due("WALL of 2, lifts " + row[0], x.run(1, 52), row[2]);
                due("WALL of 0, lifts " + row[0], x.run(1, 50), 0);
            }
        });
        Sentence.of(14, "of takes the WALL, of lifts what the blade has there", () -> {
            ThrownBack x = gates(by("falls 5;takes wall;lifts wall-3;"), 3);
            x.put(0, 4, 1);
            x.put(0, 0, 90);
            x.pass(0, 0);
            due("WALL of 2", x.run(1, 52), 5 + 3);
            x.put(0, 3, 0);
            due("minutes of 0", x.run(1, 10), 90);
        });
    }

    private static void bays() {
        Sentence.of(14, "Else the BAY takes as much as it can of it, which is LOST, and the rest comes to the WALL (999 at most)", () -> {
            int[][] rows = {{0, 0, 7}, {1, 1, 6}, {6, 6, 1}, {7, 7, 0}, {8, 7, 0}, {99, 7, 0}};
            for (int[] row : rows) {
                ThrownBack x = gates(by("falls 7;takes 1;lifts 0;"), 1);
                x.put(0, 2, row[0]);
                x.pass(0, 0);
                due("LOST, BAY " + row[0], x.run(1, 2), 35 + row[1]);
                due("WALL, BAY " + row[0], x.run(1, 50), row[2]);
            }
            int[][] walls = {{991, 998}, {992, 999}, {993, 999}, {999, 999}};
            for (int[] row : walls) {
                ThrownBack x = gates(by("falls 9;takes 1;lifts 0;"), 1);
                x.put(0, 0, row[0]);
                x.put(0, 2, 2);
                x.pass(0, 0);
                due("7 onto a WALL of " + row[0], x.run(1, 50), row[1]);
                due("LOST, onto a WALL of " + row[0], x.run(1, 2), 47);
            }
        });
        Sentence.of(14, "Else the BAY takes as much as it can of it", () -> {
            ThrownBack x = gates(by("falls 7;takes 1;lifts 0;"), 1);
            x.put(0, 2, 5);
            x.pass(0, 0);
            x.pass(1, 0);
            due("WALL behind two PASSES", x.run(2, 50), 4);
            x.put(0, 4, 1);
            due("none of a LIFTED one's", x.run(1, 2), 42);
            due("no WALL of a LIFTED one", x.run(2, 50), 0);
        });
    }

    private static void shovels() {
        Sentence.of(14, "Then each OWNER, by numbers, who COMES, and whose WALL isn't 0, shovels", () -> {
            ThrownBack x = by("falls 0;takes 5;lifts 0;");
            x.owner(0, 0);
            x.owner(0, 1);
            due("WALL 0", x.live(), 0);
            x.set(0, 0);
            x.put(0, 0, 1);
            x.put(1, 0, 1);
            due("WALL 1", x.live(), 5);
            due("it is 0 then", x.told(0, 0), 0);
            due("HEAP", x.told(0, 1), 1);
            due("who doesn't come", x.told(1, 0), 1);
            // the PASS comes, but all of it goes into the BAY
            ThrownBack bay = by("falls 2;takes 5;lifts 0;");
            bay.owner(0, 0);
            bay.put(0, 2, 2);
            bay.pass(0, 0);
            due("WALL 0 by a BAY", bay.live(), 0);
        });
        Sentence.of(14, "the WALL comes onto one's PART of THE ROAD, else onto the HEAP (999 at most each); it is 0 then", () -> {
            int[][] rows = {{1, 997, 998}, {1, 998, 999}, {2, 998, 999}, {1, 999, 999}, {999, 1, 999}, {999, 0, 999}};
            for (int[] row : rows) {
                ThrownBack heap = by("falls 0;takes 1;lifts 0;");
                heap.owner(0, 0);
                heap.put(0, 0, row[0]);
                heap.put(0, 1, row[1]);
                heap.live();
                due("HEAP, " + row[0] + " onto " + row[1], heap.told(0, 1), row[2]);
                due("WALL then", heap.told(0, 0), 0);
                due("PART 0 then", heap.told(0, 7), 0);
                ThrownBack road = lying(row[1], "0");
                road.put(0, 0, row[0]);
                road.put(0, 1, 7);
                road.put(0, 3, 0);
                due("LOST, " + row[0] + " onto " + row[1], road.run(1, 2), 0);
                road.live();
                due("PART 0, " + row[0] + " onto " + row[1], road.told(0, 7), row[2]);
                due("WALL then", road.told(0, 0), 0);
                due("HEAP then", road.told(0, 1), 7);
            }
        });
    }

    private static void minutes(int kindMore, int said, int want) {
        ThrownBack x = by("falls 0;takes " + said + ";lifts 0;");
        x.owner(kindMore, 0);
        x.put(0, 0, 1);
        due("minutes of " + kindMore + ", the text saying " + said, x.live(), want);
    }

    private static void takes() {
        Sentence.of(14, "0 OWNER: that; no; if HOUR modulo 24 is ONE'S HOUR", () -> {
            minutes(9, 1, 1);
            minutes(9, 99, 99);
            minutes(9, 100, 99);
        });
        Sentence.of(14, "1 STRONG (an OWNER): TAKES half (cut)", () -> {
            minutes(19, 2, 1);
            minutes(19, 3, 1);
            minutes(19, 4, 2);
            minutes(19, 99, 49);
            minutes(19, 9999, 49);
        });
        Sentence.of(14, "3 YOUNG (a STRONG): TAKES MORE less than a STRONG", () -> {
            minutes(30, 99, 49);
            minutes(39, 99, 40);
            minutes(39, 22, 2);
            minutes(39, 21, 1);
        });
        Sentence.of(14, "TAKES 2 more", () -> {
            minutes(49, 1, 3);
            minutes(49, 99, 101);
            minutes(29, 99, 99);
        });
        Sentence.of(14, "TAKES twice as long", () -> {
            minutes(58, 1, 2);
            minutes(58, 99, 198);
        });
        Sentence.of(14, "TAKES 1 at least, in the end", () -> {
            int[] none = {1, 1, 1, 1, 2, 1};
            for (int kind = 0; kind < 6; kind++) {
                minutes(10 * kind, 0, none[kind]);
            }
            minutes(10, 1, 1);
            minutes(31, 3, 1);
            minutes(31, 4, 1);
            minutes(31, 5, 1);
            minutes(31, 6, 2);
            minutes(39, 0, 1);
            minutes(39, 19, 1);
            minutes(39, 20, 1);
        });
    }

    private static void throwsAt(int kindMore, int heap, boolean isSo) {
        ThrownBack x = by("falls 0;takes 1;lifts 0;");
        x.owner(kindMore, 0);
        x.put(0, 0, 5);
        x.put(0, 1, heap);
        x.live();
        due("PART of " + kindMore + ", HEAP " + heap, x.told(0, 7), isSo ? 5 : 0);
        due("HEAP of " + kindMore + ", HEAP " + heap, x.told(0, 1), isSo ? heap : Math.min(999, heap + 5));
    }

    private static void throwsBack() {
        Sentence.of(14, "THROWS BACK, if the HEAP is above 20 times MORE and 20", () -> {
            throwsAt(30, 0, false);
            throwsAt(30, 20, false);
            throwsAt(30, 21, true);
            throwsAt(31, 40, false);
            throwsAt(31, 41, true);
            throwsAt(39, 200, false);
            throwsAt(39, 201, true);
            throwsAt(39, 999, true);
        });
        Sentence.of(14, "THROWS BACK, if it is 10 times MORE or higher", () -> {
            throwsAt(40, 0, true);
            throwsAt(41, 9, false);
            throwsAt(41, 10, true);
            throwsAt(49, 89, false);
            throwsAt(49, 90, true);
            throwsAt(49, 999, true);
        });
        Sentence.of(14, "2 CARELESS (an OWNER): THROWS BACK", () -> {
            for (int kindMore : new int[] {0, 9, 10, 19, 50, 58}) {
                throwsAt(kindMore, 0, false);
                throwsAt(kindMore, 999, false);
            }
            throwsAt(20, 0, true);
            throwsAt(29, 0, true);
            throwsAt(29, 999, true);
        });
    }

    private static void comesIn(int kindMore, int at, int hour, boolean isSo) {
        ThrownBack x = by("falls 0;takes 1;lifts 0;");
        x.owner(kindMore, at);
        x.put(0, 0, 5);
        x.set(0, hour);
        x.live();
        due("WALL of " + kindMore + " at " + at + " behind HOUR " + hour, x.told(0, 0), isSo ? 0 : 5);
    }

    private static void comes() {
        Sentence.of(14, "if HOUR modulo 24 is ONE'S HOUR", () -> {
            for (int kindMore : new int[] {0, 20, 40, 9}) {
                comesIn(kindMore, 0, 0, true);
                comesIn(kindMore, 0, 24, true);
                comesIn(kindMore, 0, 96, true);
                comesIn(kindMore, 0, 1, false);
                comesIn(kindMore, 0, 23, false);
                comesIn(kindMore, 0, 6, false);
                comesIn(kindMore, 23, 23, true);
                comesIn(kindMore, 23, 47, true);
                comesIn(kindMore, 23, 22, false);
                comesIn(kindMore, 23, 24, false);
                comesIn(kindMore, 23, 5, false);
            }
        });
        Sentence.of(14, "COMES also 6 hours (modulo 24) behind ONE'S HOUR", () -> {
            for (int kindMore : new int[] {10, 19, 30, 39}) {
                int[][] rows = {{0, 6}, {17, 23}, {18, 0}, {18, 24}, {23, 5}, {23, 29}, {3, 99 - 90}};
                for (int[] row : rows) {
                    comesIn(kindMore, row[0], row[1], true);
                    comesIn(kindMore, row[0], row[1] + 1, false);
                    comesIn(kindMore, row[0], row[1] == 0 ? 23 : row[1] - 1, false);
                    comesIn(kindMore, row[0], row[0], true);
                    comesIn(kindMore, row[0], row[0] + 24, true);
                    comesIn(kindMore, row[0], row[0] + 18, false);
                    comesIn(kindMore, row[0], row[0] + 1, false);
                }
            }
        });
        Sentence.of(14, "if HOUR by 24 (cut) modulo 2 is MORE modulo 2", () -> {
            for (int more = 0; more < 10; more++) {
                boolean isEven = more % 2 == 0;
                comesIn(50 + more, 0, 0, isEven);
                comesIn(50 + more, 23, 23, isEven);
                comesIn(50 + more, 0, 24, !isEven);
                comesIn(50 + more, 23, 47, !isEven);
                comesIn(50 + more, 0, 48, isEven);
                comesIn(50 + more, 23, 71, isEven);
                comesIn(50 + more, 0, 72, !isEven);
                comesIn(50 + more, 3, 99, isEven);
                comesIn(50 + more, 0, 1, false);
                comesIn(50 + more, 0, 6, false);
                comesIn(50 + more, 0, 30, false);
            }
        });
    }

    private static void blockedBy(int limit, int wall, int want) {
        ThrownBack x = gates(by("falls 0;takes 1;lifts 0;"), 1);
        x.set(1, limit);
        x.put(0, 0, wall);
        due("BLOCKED, WALL " + wall + ", LIMIT " + limit, x.run(1, 30), want);
        due("all BLOCKED, WALL " + wall + ", LIMIT " + limit, x.run(1, 1), want);
    }

    private static void blocked() {
        Sentence.of(14, "Then each GATE whose WALL is above THE LIMIT is BLOCKED that hour", () -> {
            int[][] rows = {{0, 0, 0}, {0, 1, 1}, {10, 10, 0}, {10, 11, 1}, {998, 998, 0}, {998, 999, 1}, {999, 999, 0}};
            for (int[] row : rows) {
                blockedBy(row[0], row[1], row[2]);
            }
            // behind the shovelling: in the hour in which one comes it is not BLOCKED
            ThrownBack x = by("falls 0;takes 1;lifts 0;");
            x.owner(0, 3);
            x.put(0, 0, 50);
            due("run(3, 30)", x.run(3, 30), 3);
            due("run(4, 30)", x.run(4, 30), 3);
        });
    }

    private static void hour() {
        Sentence.of(14, "THE HOUR is 1 more", () -> {
            ThrownBack x = new ThrownBack();
            x.set(0, 99);
            due("live()", x.live(), 0);
            due("count(2)", x.count(2), 100);
        });
        Sentence.of(14, "AN HOUR, truly: minutes of all OWNERS, together", () -> {
            ThrownBack x = by("falls 0;takes 99;lifts 0;");
            due("live() of none", x.live(), 0);
            x.set(0, 0);
            for (int g = 0; g < 12; g++) {
                x.owner(50, 0);
                x.put(g, 0, 1);
            }
            due("live() of 12", x.live(), 12 * 198);
            due("live() then", x.live(), 0);
        });
        Sentence.of(14, "FULL: THE HOUR is 999.", () -> {
            // more than 512 calls are behind it, so no promise is: but it is so
            ThrownBack x = new ThrownBack();
            x.owner(0, 0);
            x.set(0, 99);
            for (int h = 99; h < 998; h++) {
                x.live();
            }
            due("live() in HOUR 998", x.live(), 0);
            due("count(2)", x.count(2), 999);
            x.put(0, 0, 5);
            due("live() in HOUR 999", x.live(), FULL);
            due("count(2)", x.count(2), 999);
            due("WALL", x.told(0, 0), 5);
            due("PART 0", x.taken(12, 6), 999);
        });
    }

    private static void run() {
        Sentence.of(15, "n HOURS, in thought (0 .. 48), from all as it is now", () -> {
            ThrownBack x = by("falls 0;takes hour;lifts 0;");
            x.owner(0, 0);
            x.put(0, 0, 50);
            due("run(0, 1)", x.run(0, 1), 0);
            due("run(0, 50)", x.run(0, 50), 50);
            x.put(0, 3, 23);
            due("run(23, 1)", x.run(23, 1), 23);
            x.set(0, 24);
            due("run(48, 0)", x.run(48, 0), 47);
            x.set(0, 1);
            x.put(0, 3, 0);
            due("run(48, 1)", x.run(48, 1), 23);
            // the 48th hour is HOUR 47
            x.set(0, 0);
            x.put(0, 0, 0);
            x.pass(23, 0);
            Check.text(x, "falls hour=47;takes 1;lifts 0;");
            x.force(2);
            due("run(47, 2)", x.run(47, 2), 0);
            due("run(48, 2)", x.run(48, 2), 5);
            due("run(48, 50)", x.run(48, 50), 1);
        });
        Sentence.of(15, "BAD: n", () -> {
            for (int n : Sentence.outside(0, 48)) {
                Tale.refused("run(" + n + ", 0)", BAD, x -> x.run(n, 0));
                Tale.refused("run(" + n + ", 5)", BAD, x -> x.run(n, 5));
                Tale.refused("run(" + n + ", 15)", BAD, x -> x.run(n, 15));
            }
        });
        Sentence.of(15, "-7: what, no such OWNER.", () -> {
            for (int what : new int[] {-1, 5, 9, 15, 22, 29, 35, 42, 49, 55, 62, 70, 69, 90, Sentence.LEAST, Sentence.MOST}) {
                Tale.refused("run(1, " + what + ") of 5", -7, x -> x.run(1, what));
            }
            for (int what : new int[] {-1, 5, 9, 22, 29, 42, 49, 62, 69, 70}) {
                Tale.refused(Tale::full, "run(1, " + what + ") of 12", -7, x -> x.run(1, what));
            }
            for (int what : new int[] {10, 30, 50}) {
                Tale.refused(ThrownBack::new, "run(1, " + what + ") of none", -7, x -> x.run(1, what));
            }
        });
        Sentence.of(15, "What is asked changes nothing", () -> {
            for (int what : new int[] {0, 1, 2, 3, 4, 10, 14, 30, 34, 50, 54}) {
                Tale.onlyAsked("run(48, " + what + ")", x -> x.run(48, what));
            }
        });
    }

    private static void answers() {
        Sentence.of(15, "3 the highest HEAP at last (-1: no OWNERS)", () -> {
            due("run(48, 3) of none", new ThrownBack().run(48, 3), -1);
            ThrownBack x = gates(new ThrownBack(), 12);
            due("run(0, 3) of no HEAP", x.run(0, 3), 0);
            x.put(11, 1, 999);
            due("run(0, 3)", x.run(0, 3), 999);
            x.put(11, 1, 0);
            x.put(0, 1, 998);
            due("run(0, 3)", x.run(0, 3), 998);
            x.put(5, 0, 999);
            x.put(5, 3, 0);
            due("run(1, 3)", x.run(1, 3), 999);
        });
        Sentence.of(15, "4 the OWNER with most minutes, of like ones the first (-1: none)", () -> {
            due("run(48, 4) of none", new ThrownBack().run(48, 4), -1);
            ThrownBack x = by("falls 0;takes wall;lifts 0;");
            for (int g = 0; g < 12; g++) {
                x.owner(0, 0);
            }
            due("run(1, 4) of no minutes", x.run(1, 4), 0);
            x.put(11, 0, 1);
            due("run(1, 4), the last", x.run(1, 4), 11);
            x.put(7, 0, 1);
            due("run(1, 4), like ones", x.run(1, 4), 7);
            x.put(3, 0, 2);
            due("run(1, 4), one more", x.run(1, 4), 3);
            due("run(0, 4)", x.run(0, 4), 0);
        });
        Sentence.of(15, "n HOURS: what 0 minutes, 1 hours BLOCKED, 2 LOST", () -> {
            ThrownBack x = gates(by("falls 2;takes 9;lifts 0;"), 2);
            for (int what = 0; what < 3; what++) {
                due("run(0, " + what + ")", x.run(0, what), 0);
            }
            x.put(0, 0, 11);
            x.put(1, 0, 11);
            due("run(2, 1), together", x.run(2, 1), 4);
            x.pass(0, 0);
            due("run(1, 2)", x.run(1, 2), 10);
            due("run(24, 0), together", x.run(24, 0), 18);
        });
        Sentence.of(15, "what is LOST in them", () -> {
            ThrownBack x = gates(by("falls 2;takes 9;lifts 0;"), 1);
            x.pass(0, 0);
            x.live();
            x.live();
            due("run(22, 2): none of what was lost truly", x.run(22, 2), 0);
            due("run(23, 2): of 23 HOURS", x.run(23, 2), 5 * 24 * 2);
        });
    }

    private static void ofOwners() {
        Sentence.of(15, "10 .. minutes of OWNER what less 10, 30 .. hours in which GATE what less 30 is BLOCKED, 50 .. the WALL of GATE what less 50 at last", () -> {
            ThrownBack x = by("falls 0;takes wall;lifts 0;");
            for (int g = 0; g < 12; g++) {
                x.owner(0, g);
                x.put(g, 0, 20 + g);
            }
            for (int g = 0; g < 12; g++) {
                due("run(12, " + (10 + g) + ")", x.run(12, 10 + g), 20 + g);
                due("run(12, " + (30 + g) + ")", x.run(12, 30 + g), g);
                due("run(" + g + ", " + (50 + g) + ")", x.run(g, 50 + g), 20 + g);
                due("run(" + (g + 1) + ", " + (50 + g) + ")", x.run(g + 1, 50 + g), 0);
            }
        });
    }
}
