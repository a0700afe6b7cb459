/** The boundaries of promises 31 to 35: the host. */
public final class HostBounds {
    private static final int BAD = -2;

    private HostBounds() { }

    public static void main(String[] args) {
        sheet();
        cell();
        copy();
        ownersBy();
        taken();
        Sentence.end("HostBounds", 31, 35);
    }

    private static void due(String call, long got, long want) {
        Check.due(call, got, want);
    }

    /** A row of these, of a sort. */
    private static void tell(ThrownBack x, int s, int sort, int... numbers) {
        x.sheet(s, sort, numbers.length);
        for (int i = 0; i < numbers.length; i++) {
            x.cell(s, i, numbers[i]);
        }
    }

    /** Number i of a SHEET is this (0 .. 999): held against the WALL of one GATE, by another SHEET of the sort. */
    private static void holds(String call, ThrownBack x, int s, int i, int want) {
        int spare = s == 3 ? 2 : 3;
        for (int sort = 0; sort < 3; sort++) {
            x.sheet(spare, sort, 1);
            if (x.copy(s, i, spare, 0, 1) == 1) {
                x.put(0, 0, want);
                due(call + ", number " + i, x.judge(spare, 0), -1);
                return;
            }
        }
        Check.holds(call + " has a number " + i, false);
    }

    private static ThrownBack oneOwner() {
        ThrownBack x = new ThrownBack();
        x.owner(0, 9);
        return x;
    }

    private static void sheet() {
        Sentence.of(31, "A SHEET becomes a row of n of a sort, all 0", () -> {
            for (int s = 0; s < 4; s++) {
                for (int sort = 0; sort < 3; sort++) {
                    ThrownBack x = oneOwner();
                    x.sheet(s, sort, 3);
                    for (int i = 0; i < 3; i++) {
                        x.cell(s, i, 7);
                    }
                    due("sheet(" + s + ", " + sort + ", 3)", x.sheet(s, sort, 3), 1);
                    for (int i = 0; i < 3; i++) {
                        holds("sheet(" + s + ", " + sort + ", 3)", x, s, i, 0);
                    }
                    due("no number 3", x.cell(s, 3, 0), -12);
                    due("ownersBy() of the sort", x.ownersBy(s, sort, 0, 0), 0);
                    due("ownersBy() of another", x.ownersBy(s, (sort + 1) % 3, 0, 0), -13);
                }
            }
        });
        Sentence.of(31, "of sort 0 bytes, 1 shorts, 2 ints, 40 at most", () -> {
            for (int sort = 0; sort < 3; sort++) {
                int which = sort;
                ThrownBack x = new ThrownBack();
                due("sheet(0, " + sort + ", 40)", x.sheet(0, sort, 40), 1);
                due("cell(0, 39, 1)", x.cell(0, 39, 1), 1);
                due("cell(0, 40, 1)", x.cell(0, 40, 1), -12);
                due("sheet(0, " + sort + ", 0)", x.sheet(0, sort, 0), 1);
                due("cell(0, 0, 1)", x.cell(0, 0, 1), -12);
                for (int n : new int[] {41, 42, Sentence.MOST}) {
                    Tale.refused("sheet(0, " + sort + ", " + n + ")", BAD, y -> y.sheet(0, which, n));
                    Tale.refused("sheet(3, " + sort + ", " + n + ")", BAD, y -> y.sheet(3, which, n));
                }
            }
        });
        Sentence.of(31, "or missing (sort -1: n does not matter): 1", () -> {
            for (int n : new int[] {0, 40, 41, -1, Sentence.LEAST, Sentence.MOST}) {
                ThrownBack x = Tale.some();
                due("sheet(1, -1, " + n + ")", x.sheet(1, -1, n), 1);
                due("cell(1, 0, 0)", x.cell(1, 0, 0), -11);
                due("sheet(1, -1, " + n + ") again", x.sheet(1, -1, n), 1);
                due("cell(0, 0, 0) of another", x.cell(0, 0, 0), 1);
            }
        });
        Sentence.of(31, "BAD: SHEET, sort, n above 40; -14.", () -> {
            for (int s : Sentence.outside(0, 3)) {
                Tale.refused("sheet(" + s + ", 0, 1)", BAD, x -> x.sheet(s, 0, 1));
                Tale.refused("sheet(" + s + ", -1, 1)", BAD, x -> x.sheet(s, -1, 1));
                Tale.refused("sheet(" + s + ", 0, -1)", BAD, x -> x.sheet(s, 0, -1));
            }
            for (int sort : Sentence.outside(-1, 2)) {
                Tale.refused("sheet(0, " + sort + ", 1)", BAD, x -> x.sheet(0, sort, 1));
                Tale.refused("sheet(0, " + sort + ", -1)", BAD, x -> x.sheet(0, sort, -1));
            }
            for (int n : new int[] {-1, -2, -40, Sentence.LEAST}) {
                for (int sort = 0; sort < 3; sort++) {
                    int which = sort;
                    Tale.refused("sheet(0, " + sort + ", " + n + ")", -14, x -> x.sheet(0, which, n));
                    Tale.refused("sheet(3, " + sort + ", " + n + ")", -14, x -> x.sheet(3, which, n));
                }
            }
        });
    }

    private static void cell() {
        Sentence.of(32, "(of bytes, shorts its lowest 8, 16 bits)", () -> {
            int[][] rows = {
                {0, 127, 127}, {0, 256, 0}, {0, 256 + 127, 127}, {0, -256, 0}, {0, -255, 1}, {0, -129, 127}, {0, 65536 + 5, 5},
                {0, Sentence.LEAST, 0}, {0, Sentence.LEAST + 99, 99},
                {1, 255, 255}, {1, 256, 256}, {1, 999, 999}, {1, 65536, 0}, {1, 65536 + 999, 999}, {1, -65536, 0},
                {1, -65535, 1}, {1, Sentence.LEAST + 999, 999}, {2, 0, 0}, {2, 999, 999}};
            for (int[] row : rows) {
                ThrownBack x = oneOwner();
                tell(x, 0, row[0], 9, 9, 9);
                due("cell(0, 1, " + row[1] + ") of sort " + row[0], x.cell(0, 1, row[1]), 1);
                holds("cell(0, 1, " + row[1] + ") of sort " + row[0], x, 0, 1, row[2]);
                holds("the one ahead", x, 0, 0, 9);
                holds("the one behind", x, 0, 2, 9);
            }
            int[][] others = {{0, 254, 254}, {0, 255, 255}, {0, 256, 256}, {1, 65535, 999}, {1, -1, 0}, {2, 65536 + 5, 5},
                {2, 256 + 5, 5}, {2, Sentence.LEAST, 0}, {2, Sentence.MOST, 0}, {2, -1, 0}};
            for (int[] row : others) {
                ThrownBack x = oneOwner();
                tell(x, 0, row[0], row[1]);
                x.put(0, 0, row[2]);
                due("judge() of " + row[1] + " of sort " + row[0] + ", WALL " + row[2], x.judge(0, 0), 0);
            }
        });
        Sentence.of(32, "BAD: SHEET; -11; -12.", () -> {
            for (int s : Sentence.outside(0, 3)) {
                Tale.refused("cell(" + s + ", 0, 1)", BAD, x -> x.cell(s, 0, 1));
                Tale.refused("cell(" + s + ", -1, 1)", BAD, x -> x.cell(s, -1, 1));
                Tale.refused(ThrownBack::new, "cell(" + s + ", 0, 1) of none", BAD, x -> x.cell(s, 0, 1));
            }
            for (int i : new int[] {0, -1, 40, Sentence.LEAST, Sentence.MOST}) {
                Tale.refused("cell(3, " + i + ", 1)", -11, x -> x.cell(3, i, 1));
            }
            int[] sizes = {6, 4, 5};
            for (int s = 0; s < 3; s++) {
                int which = s;
                for (int i : Sentence.outside(0, sizes[s] - 1)) {
                    Tale.refused("cell(" + s + ", " + i + ", 1)", -12, x -> x.cell(which, i, 1));
                }
                due("cell(" + s + ", 0, 1)", Tale.some().cell(s, 0, 1), 1);
                due("cell(" + s + ", last, 1)", Tale.some().cell(s, sizes[s] - 1, 1), 1);
            }
        });
    }

    private static void copied(int i, int j, int n) {
        int[] due = {1, 2, 3, 4, 5, 6};
        int[] was = due.clone();
        System.arraycopy(was, i, due, j, n);
        for (int sort = 0; sort < 3; sort++) {
            ThrownBack x = oneOwner();
            tell(x, 0, sort, was);
            due("copy(0, " + i + ", 0, " + j + ", " + n + ")", x.copy(0, i, 0, j, n), n);
            for (int k = 0; k < 6; k++) {
                holds("copy(0, " + i + ", 0, " + j + ", " + n + ")", x, 0, k, due[k]);
            }
        }
    }

    private static void copy() {
        Sentence.of(33, "n numbers of a SHEET, from i on, come to another one's (or its own) place j (as they were): n", () -> {
            int[][] own = {{0, 0, 6}, {0, 1, 5}, {1, 0, 5}, {0, 3, 3}, {3, 0, 3}, {0, 5, 1}, {5, 0, 1}, {2, 3, 2}, {6, 6, 0}, {0, 6, 0}};
            for (int[] row : own) {
                copied(row[0], row[1], row[2]);
            }
            for (int sort = 0; sort < 3; sort++) {
                ThrownBack x = oneOwner();
                tell(x, 0, sort, 1, 2, 3);
                tell(x, 1, sort, 7, 8, 9, 10);
                due("copy(0, 0, 1, 1, 3), all", x.copy(0, 0, 1, 1, 3), 3);
                int[] now = {7, 1, 2, 3};
                for (int i = 0; i < 4; i++) {
                    holds("copy(0, 0, 1, 1, 3)", x, 1, i, now[i]);
                }
                for (int i = 0; i < 3; i++) {
                    holds("what they came from", x, 0, i, i + 1);
                }
            }
            ThrownBack x = oneOwner();
            x.sheet(0, 0, 40);
            x.cell(0, 39, 5);
            x.sheet(1, 0, 40);
            due("copy(0, 0, 1, 0, 40)", x.copy(0, 0, 1, 0, 40), 40);
            holds("copy(0, 0, 1, 0, 40)", x, 1, 39, 5);
        });
        Sentence.of(33, "-12 (n below 0, too).", () -> {
            // SHEET 2 has 5, SHEET 3 then 4 ints
            int[][] rows = {{0, 0, -1}, {0, 0, 5}, {0, 0, 6}, {1, 0, 5}, {1, 1, 4}, {0, 1, 4}, {5, 0, 1}, {0, 4, 1}, {4, 3, 2}, {6, 0, 0},
                {0, 5, 0}, {-1, 0, 1}, {0, -1, 1}, {-1, 0, 0}, {0, -1, 0}, {-1, -1, -1}, {0, 0, Sentence.LEAST}, {0, 0, Sentence.MOST},
                {1, 1, Sentence.MOST}, {Sentence.MOST, 0, 1}, {0, Sentence.MOST, 1}, {Sentence.LEAST, 0, 1}, {0, Sentence.LEAST, 1},
                {Sentence.MOST, 0, Sentence.MOST}, {Sentence.LEAST, 0, Sentence.LEAST}};
            for (int[] row : rows) {
                Tale.refused(HostBounds::fourMore, "copy(2, " + row[0] + ", 3, " + row[1] + ", " + row[2] + ")", -12,
                        x -> x.copy(2, row[0], 3, row[1], row[2]));
            }
            int[][] taken = {{0, 0, 4}, {1, 0, 4}, {4, 3, 1}, {5, 4, 0}, {0, 0, 0}, {5, 0, 0}, {0, 4, 0}};
            for (int[] row : taken) {
                due("copy(2, " + row[0] + ", 3, " + row[1] + ", " + row[2] + ")", fourMore().copy(2, row[0], 3, row[1], row[2]), row[2]);
            }
        });
        Sentence.of(33, "BAD: SHEETS; -11; -13: unlike sorts", () -> {
            for (int s : Sentence.outside(0, 3)) {
                Tale.refused("copy(" + s + ", 0, 0, 0, 1)", BAD, x -> x.copy(s, 0, 0, 0, 1));
                Tale.refused("copy(0, 0, " + s + ", 0, 1)", BAD, x -> x.copy(0, 0, s, 0, 1));
                Tale.refused("copy(3, 0, " + s + ", 0, 1), ahead of -11", BAD, x -> x.copy(3, 0, s, 0, 1));
                Tale.refused("copy(" + s + ", 0, 3, 0, -1), ahead of all", BAD, x -> x.copy(s, 0, 3, 0, -1));
            }
            for (int n : new int[] {0, 1, -1, 41}) {
                Tale.refused("copy(3, 0, 0, 0, " + n + ")", -11, x -> x.copy(3, 0, 0, 0, n));
                Tale.refused("copy(0, 0, 3, 0, " + n + ")", -11, x -> x.copy(0, 0, 3, 0, n));
                Tale.refused("copy(3, 0, 3, 0, " + n + ")", -11, x -> x.copy(3, 0, 3, 0, n));
                for (int s = 0; s < 3; s++) {
                    int one = s;
                    int other = (s + 1) % 3;
                    Tale.refused("copy(" + one + ", 0, " + other + ", 0, " + n + ")", -13, x -> x.copy(one, 0, other, 0, n));
                    Tale.refused("copy(" + other + ", -1, " + one + ", 9, " + n + ")", -13, x -> x.copy(other, -1, one, 9, n));
                }
            }
        });
    }

    private static ThrownBack fourMore() {
        ThrownBack x = Tale.some();
        tell(x, 3, 2, 6, 7, 8, 9);
        return x;
    }

    private static void ownersBy() {
        Sentence.of(34, "from a place on, two by two (as of owner()), n of them (0 .. 12): how many came", () -> {
            for (int sort = 0; sort < 3; sort++) {
                ThrownBack x = new ThrownBack();
                tell(x, 0, sort, 59, 23, 0, 0, 12, 3, 4, 5, 6, 7, 8, 9, 10, 11, 12, 13, 14, 15, 16, 17, 18, 19, 20, 21, 22, 23);
                due("ownersBy(0, " + sort + ", 0, 0)", x.ownersBy(0, sort, 0, 0), 0);
                due("count(0)", x.count(0), 0);
                due("ownersBy(0, " + sort + ", 0, 12)", x.ownersBy(0, sort, 0, 12), 12);
                int[] kindMores = {59, 0, 12, 4, 6, 8, 10, 12, 14, 16, 18, 20};
                int[] hours = {23, 0, 3, 5, 7, 9, 11, 13, 15, 17, 19, 21};
                for (int g = 0; g < 12; g++) {
                    due("KIND and MORE of " + g, 10 * x.told(g, 5) + x.told(g, 6), kindMores[g]);
                    due("ONE'S HOUR of " + g, x.told(g, 3), hours[g]);
                }
                ThrownBack last = new ThrownBack();
                tell(last, 0, sort, 1, 2, 3, 4, 5);
                due("ownersBy(0, " + sort + ", 3, 1), the last place", last.ownersBy(0, sort, 3, 1), 1);
                due("told(0, 6)", last.told(0, 6), 4);
                due("told(0, 3)", last.told(0, 3), 5);
                due("ownersBy(0, " + sort + ", 1, 2), to the last place", last.ownersBy(0, sort, 1, 2), 2);
            }
            for (int n : Sentence.outside(0, 12)) {
                Tale.refused("ownersBy(0, 0, 0, " + n + ")", BAD, x -> x.ownersBy(0, 0, 0, n));
                Tale.refused("ownersBy(3, 0, 0, " + n + ")", BAD, x -> x.ownersBy(3, 0, 0, n));
            }
        });
        Sentence.of(34, "(others are left out)", () -> {
            ThrownBack x = new ThrownBack();
            tell(x, 0, 2, 60, 0, 0, 24, -1, 0, 0, -1, 59, 23, Sentence.MOST, Sentence.LEAST, 1, 1);
            due("ownersBy(0, 2, 0, 4), none", x.ownersBy(0, 2, 0, 4), 0);
            due("count(0)", x.count(0), 0);
            due("ownersBy(0, 2, 0, 7)", x.ownersBy(0, 2, 0, 7), 2);
            due("count(0)", x.count(0), 2);
            due("told(0, 5)", x.told(0, 5), 5);
            due("told(1, 5)", x.told(1, 5), 0);
            // there is room for two of twelve only
            ThrownBack ten = new ThrownBack();
            for (int g = 0; g < 10; g++) {
                ten.owner(0, 0);
            }
            ten.sheet(0, 0, 24);
            due("ownersBy(0, 0, 0, 12) of ten", ten.ownersBy(0, 0, 0, 12), 2);
            due("count(0)", ten.count(0), 12);
            due("ownersBy(0, 0, 0, 12) of twelve", ten.ownersBy(0, 0, 0, 12), 0);
        });
        Sentence.of(34, "-12: what stood ahead came.", () -> {
            ThrownBack x = new ThrownBack();
            tell(x, 0, 0, 1, 1, 2, 2, 3);
            due("ownersBy(0, 0, 0, 3)", x.ownersBy(0, 0, 0, 3), -12);
            due("count(0)", x.count(0), 2);
            due("told(1, 6)", x.told(1, 6), 2);
            due("ownersBy(0, 0, 3, 2)", x.ownersBy(0, 0, 3, 2), -12);
            due("count(0)", x.count(0), 3);
            due("told(2, 6)", x.told(2, 6), 2);
            due("told(2, 3)", x.told(2, 3), 3);
            // nothing stood ahead: a place below 0, behind the last, half behind the last
            for (int at : new int[] {-1, -2, 5, 6, 7, 40, Sentence.LEAST, Sentence.LEAST + 1, Sentence.MOST, Sentence.MOST - 1}) {
                for (int n : new int[] {1, 2, 12}) {
                    Tale.refused("ownersBy(0, 0, " + at + ", " + n + ")", -12, y -> y.ownersBy(0, 0, at, n));
                }
            }
            Tale.refused(Tale::full, "ownersBy(0, 0, 5, 1) of 12", -12, y -> y.ownersBy(0, 0, 5, 1));
            Tale.refused(Tale::full, "ownersBy(0, 0, 4, 2) of 12", -12, y -> y.ownersBy(0, 0, 4, 2));
            Tale.refused(HostBounds::emptySheet, "ownersBy(0, 0, 0, 1) of no numbers", -12, y -> y.ownersBy(0, 0, 0, 1));
        });
        Sentence.of(34, "BAD: SHEET, sort, n; -11; -13", () -> {
            for (int s : Sentence.outside(0, 3)) {
                Tale.refused("ownersBy(" + s + ", 0, 0, 1)", BAD, x -> x.ownersBy(s, 0, 0, 1));
                Tale.refused("ownersBy(" + s + ", 0, -1, 0)", BAD, x -> x.ownersBy(s, 0, -1, 0));
            }
            for (int sort : Sentence.outside(0, 2)) {
                Tale.refused("ownersBy(0, " + sort + ", 0, 1)", BAD, x -> x.ownersBy(0, sort, 0, 1));
                Tale.refused("ownersBy(3, " + sort + ", 0, 1)", BAD, x -> x.ownersBy(3, sort, 0, 1));
            }
            for (int at : new int[] {0, -1, 40}) {
                for (int n : new int[] {0, 1, 12}) {
                    for (int s = 0; s < 3; s++) {
                        int which = s;
                        Tale.refused("ownersBy(3, " + s + ", " + at + ", " + n + ")", -11, x -> x.ownersBy(3, which, at, n));
                        Tale.refused("ownersBy(" + s + ", " + (s + 1) % 3 + ", " + at + ", " + n + ")", -13,
                                x -> x.ownersBy(which, (which + 1) % 3, at, n));
                    }
                }
            }
        });
    }

    private static ThrownBack emptySheet() {
        ThrownBack x = Tale.some();
        x.sheet(0, 0, 0);
        return x;
    }

    private static void taken() {
        Sentence.of(35, "taken for 0 .. 5 an OWNER of that KIND (also of one that is one): the number", () -> {
            ThrownBack x = Tale.full();
            String[] isOf = {"100000", "110000", "101000", "110100", "101010", "100001"};
            for (int g = 0; g < 12; g++) {
                String kinds = isOf[x.told(g, 5)];
                for (int kind = 0; kind < 6; kind++) {
                    due("taken(" + g + ", " + kind + ")", x.taken(g, kind), kinds.charAt(kind) == '1' ? g : -13);
                }
                due("taken(" + g + ", 6)", x.taken(g, 6), -13);
            }
        });
        Sentence.of(35, "6 a PART: what lies there (0, too)", () -> {
            for (int p = 0; p < 6; p++) {
                due("taken(" + (12 + p) + ", 6) of a new object", new ThrownBack().taken(12 + p, 6), 0);
                // no snow: only GATE 2p's CARELESS one throws something onto the road
                ThrownBack x = new ThrownBack();
                x.force(Check.text(x, "falls 0;takes 1;lifts 0;"));
                for (int g = 0; g < 12; g++) {
                    x.owner(20, 0);
                }
                x.put(2 * p, 0, 999);
                x.live();
                for (int other = 0; other < 6; other++) {
                    due("taken(" + (12 + other) + ", 6)", x.taken(12 + other, 6), other == p ? 999 : 0);
                }
            }
        });
        Sentence.of(35, "BAD: kind; -12: i; -11: no such OWNER; -13.", () -> {
            for (int kind : Sentence.outside(0, 6)) {
                for (int i : new int[] {0, 5, 12, 17, 18, -1}) {
                    Tale.refused("taken(" + i + ", " + kind + ")", BAD, x -> x.taken(i, kind));
                }
            }
            for (int i : Sentence.outside(0, 17)) {
                for (int kind = 0; kind < 7; kind++) {
                    int asked = kind;
                    Tale.refused("taken(" + i + ", " + kind + ")", -12, x -> x.taken(i, asked));
                }
            }
            for (int i : new int[] {5, 11}) {
                for (int kind = 0; kind < 7; kind++) {
                    int asked = kind;
                    Tale.refused("taken(" + i + ", " + kind + ") of 5", -11, x -> x.taken(i, asked));
                }
            }
            for (int kind = 0; kind < 6; kind++) {
                int asked = kind;
                for (int i : new int[] {12, 17}) {
                    Tale.refused("taken(" + i + ", " + kind + ")", -13, x -> x.taken(i, asked));
                }
            }
            for (int i : new int[] {0, 4}) {
                Tale.refused("taken(" + i + ", 6)", -13, x -> x.taken(i, 6));
            }
        });
        Sentence.of(35, "What is asked changes nothing", () -> {
            Tale.onlyAsked("taken(0, 0)", x -> x.taken(0, 0));
            Tale.onlyAsked("taken(17, 6)", x -> x.taken(17, 6));
        });
    }
}
