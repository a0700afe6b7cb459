/** The boundaries of promises 8 to 13: owners and passes. */
public final class OwnerBounds {
    private static final int BAD = -2;
    private static final int FULL = -4;
    private static final int[] MOST_PUT = {999, 999, 99, 23, 1};

    private OwnerBounds() { }

    public static void main(String[] args) {
        owner();
        put();
        told();
        pass();
        move();
        comes();
        Sentence.end("OwnerBounds", 8, 13);
    }

    private static void due(String call, long got, long want) {
        Check.due(call, got, want);
    }

    private static void owner() {
        Sentence.of(8, "(kindMore: 10 times KIND, and MORE; ONE'S HOUR)", () -> {
            ThrownBack x = new ThrownBack();
            due("owner(0, 0)", x.owner(0, 0), 0);
            due("owner(59, 23)", x.owner(59, 23), 1);
            due("owner(10, 1)", x.owner(10, 1), 2);
            due("owner(9, 1)", x.owner(9, 1), 3);
            int[] kinds = {0, 5, 1, 0};
            int[] mores = {0, 9, 0, 9};
            int[] hours = {0, 23, 1, 1};
            for (int g = 0; g < 4; g++) {
                due("told(" + g + ", 5)", x.told(g, 5), kinds[g]);
                due("told(" + g + ", 6)", x.told(g, 6), mores[g]);
                due("told(" + g + ", 3)", x.told(g, 3), hours[g]);
            }
        });
        Sentence.of(8, "BAD; FULL.", () -> {
            for (int kindMore : Sentence.outside(0, 59)) {
                Tale.refused("owner(" + kindMore + ", 0)", BAD, x -> x.owner(kindMore, 0));
                Tale.refused(Tale::full, "owner(" + kindMore + ", 0) of 12", BAD, x -> x.owner(kindMore, 0));
            }
            for (int at : Sentence.outside(0, 23)) {
                Tale.refused("owner(0, " + at + ")", BAD, x -> x.owner(0, at));
                Tale.refused(Tale::full, "owner(0, " + at + ") of 12", BAD, x -> x.owner(0, at));
            }
        });
        Sentence.of(8, "OWNERS are numbered from 0 on, 12 at most", () -> {
            ThrownBack x = new ThrownBack();
            for (int g = 0; g < 12; g++) {
                due("owner " + g, x.owner(g, g), g);
                due("count(0)", x.count(0), g + 1);
            }
            Tale.refused(Tale::full, "owner(0, 0) of 12", FULL, y -> y.owner(0, 0));
        });
        Sentence.of(8, "(0 .. 999; 0 as one comes)", () -> {
            ThrownBack x = new ThrownBack();
            x.image();
            for (int round = 0; round < 2; round++) {
                due("owner", x.owner(0, 0), 0);
                for (int what : new int[] {0, 1, 2, 4}) {
                    due("told(0, " + what + ") as one comes", x.told(0, what), 0);
                    x.put(0, what, 1);
                }
                // the OWNER is none then, and the next one comes without anything
                due("back()", x.back(), 0);
            }
        });
    }

    private static void put() {
        Sentence.of(9, "WALL (what 0), HEAP (1), BAY (2), ONE'S HOUR (3), LIFTED (4) becomes v: what it was", () -> {
            ThrownBack x = new ThrownBack();
            x.owner(0, 5);
            x.owner(0, 6);
            int[] first = {0, 0, 0, 5, 0};
            for (int what = 0; what < 5; what++) {
                due("put(0, " + what + ", most)", x.put(0, what, MOST_PUT[what]), first[what]);
                due("put(0, " + what + ", most) again", x.put(0, what, MOST_PUT[what]), MOST_PUT[what]);
                due("told(0, " + what + ")", x.told(0, what), MOST_PUT[what]);
                due("put(0, " + what + ", 0)", x.put(0, what, 0), MOST_PUT[what]);
                due("told(0, " + what + ")", x.told(0, what), 0);
                due("of the other", x.told(1, what), what == 3 ? 6 : 0);
            }
        });
        Sentence.of(9, "-7: what, v.", () -> {
            for (int what = 0; what < 5; what++) {
                int put = what;
                for (int v : Sentence.outside(0, MOST_PUT[what])) {
                    Tale.refused("put(4, " + what + ", " + v + ")", -7, x -> x.put(4, put, v));
                }
            }
            for (int what : Sentence.outside(0, 4)) {
                Tale.refused("put(0, " + what + ", 0)", -7, x -> x.put(0, what, 0));
                Tale.refused("put(0, " + what + ", -1)", -7, x -> x.put(0, what, -1));
            }
        });
        Sentence.of(9, "-5: no such OWNER", () -> {
            for (int g : Sentence.outside(0, 4)) {
                Tale.refused("put(" + g + ", 0, 0)", -5, x -> x.put(g, 0, 0));
                Tale.refused("put(" + g + ", 5, 0)", -5, x -> x.put(g, 5, 0));
                Tale.refused("put(" + g + ", 0, 1000)", -5, x -> x.put(g, 0, 1000));
            }
            Tale.refused(ThrownBack::new, "put(0, 0, 0) of none", -5, x -> x.put(0, 0, 0));
            Tale.refused(Tale::full, "put(12, 0, 0) of 12", -5, x -> x.put(12, 0, 0));
            due("put(11, 0, 0) of 12", Tale.full().put(11, 0, 0), 990);
        });
    }

    private static void told() {
        Sentence.of(10, "Of an OWNER what 0 .. 4 as of put(), 5 KIND, 6 MORE, 7 what lies on one's PART", () -> {
            ThrownBack x = new ThrownBack();
            x.owner(59, 23);
            for (int what = 0; what < 5; what++) {
                x.put(0, what, MOST_PUT[what]);
            }
            x.live();
            int[] now = {999, 999, 99, 23, 1, 5, 9, 2};
            for (int what = 0; what < 8; what++) {
                due("told(0, " + what + ")", x.told(0, what), now[what]);
            }
        });
        Sentence.of(10, "GATE g lies at PART g by 2 (cut)", () -> {
            // each CARELESS one throws so much onto one's own part: GATES 2p and 2p+1 onto PART p
            for (int g = 0; g < 12; g++) {
                ThrownBack x = new ThrownBack();
                for (int i = 0; i < 12; i++) {
                    x.owner(20, 0);
                }
                x.put(g, 0, 40);
                x.live();
                for (int i = 0; i < 12; i++) {
                    due("told(" + i + ", 7), " + g + " threw", x.told(i, 7), i / 2 == g / 2 ? 42 : 2);
                }
                due("taken(" + (12 + g / 2) + ", 6)", x.taken(12 + g / 2, 6), 42);
            }
        });
        Sentence.of(10, "-5: no such OWNER; -7: what.", () -> {
            for (int g : Sentence.outside(0, 4)) {
                Tale.refused("told(" + g + ", 7)", -5, x -> x.told(g, 7));
                Tale.refused("told(" + g + ", 8)", -5, x -> x.told(g, 8));
            }
            for (int what : Sentence.outside(0, 7)) {
                Tale.refused("told(0, " + what + ")", -7, x -> x.told(0, what));
            }
            Tale.refused(ThrownBack::new, "told(0, 7) of none", -5, x -> x.told(0, 7));
            Tale.refused(Tale::full, "told(12, 0) of 12", -5, x -> x.told(12, 0));
        });
        Sentence.of(10, "What is asked changes nothing", () -> {
            for (int what = 0; what < 8; what++) {
                int asked = what;
                Tale.onlyAsked("told(4, " + what + ")", x -> x.told(4, asked));
            }
        });
    }

    private static void pass() {
        Sentence.of(11, "A PASS behind all others: how many there are", () -> {
            ThrownBack x = new ThrownBack();
            due("pass(0, 0)", x.pass(0, 0), 1);
            due("pass(23, 1)", x.pass(23, 1), 2);
            due("pass(23, 0)", x.pass(23, 0), 3);
            due("pass(0, 1)", x.pass(0, 1), 4);
            int[] now = {0, 231, 230, 1};
            for (int k = 0; k < 4; k++) {
                due("comes(" + k + ")", x.comes(k), now[k]);
            }
        });
        Sentence.of(11, "BAD; FULL.", () -> {
            for (int at : Sentence.outside(0, 23)) {
                Tale.refused("pass(" + at + ", 0)", BAD, x -> x.pass(at, 0));
                Tale.refused(Tale::full, "pass(" + at + ", 0) of 6", BAD, x -> x.pass(at, 0));
            }
            for (int to : Sentence.outside(0, 1)) {
                Tale.refused("pass(0, " + to + ")", BAD, x -> x.pass(0, to));
                Tale.refused(Tale::full, "pass(0, " + to + ") of 6", BAD, x -> x.pass(0, to));
            }
        });
        Sentence.of(11, "PASSES are numbered from 0 on, 6 at most", () -> {
            ThrownBack x = new ThrownBack();
            for (int k = 0; k < 6; k++) {
                due("pass " + k, x.pass(k, 1), k + 1);
                due("comes(" + k + ")", x.comes(k), 10 * k + 1);
            }
            Tale.refused(Tale::full, "pass(0, 0) of 6", FULL, y -> y.pass(0, 0));
        });
    }

    private static void move() {
        Sentence.of(12, "what it was (10 times the hour, and the SIDE)", () -> {
            ThrownBack x = new ThrownBack();
            x.pass(7, 1);
            x.pass(8, 0);
            due("move(0, 23, 1)", x.move(0, 23, 1), 71);
            due("move(0, 0, 0)", x.move(0, 0, 0), 231);
            due("move(0, 0, 0) again", x.move(0, 0, 0), 0);
            due("move(1, 0, 1)", x.move(1, 0, 1), 80);
            due("comes(0)", x.comes(0), 0);
            due("comes(1)", x.comes(1), 1);
            due("move(5, 1, 1) of 6", Tale.full().move(5, 1, 1), 201);
        });
        Sentence.of(12, "-6: no such PASS", () -> {
            for (int k : Sentence.outside(0, 2)) {
                Tale.refused("move(" + k + ", 0, 0)", -6, x -> x.move(k, 0, 0));
                Tale.refused("move(" + k + ", 24, 0)", -6, x -> x.move(k, 24, 0));
                Tale.refused("move(" + k + ", 0, 2)", -6, x -> x.move(k, 0, 2));
            }
            Tale.refused(ThrownBack::new, "move(0, 0, 0) of none", -6, x -> x.move(0, 0, 0));
            Tale.refused(Tale::full, "move(6, 0, 0) of 6", -6, x -> x.move(6, 0, 0));
        });
        Sentence.of(12, "-7: hour, SIDE.", () -> {
            for (int at : Sentence.outside(0, 23)) {
                Tale.refused("move(2, " + at + ", 0)", -7, x -> x.move(2, at, 0));
            }
            for (int to : Sentence.outside(0, 1)) {
                Tale.refused("move(2, 0, " + to + ")", -7, x -> x.move(2, 0, to));
            }
        });
    }

    private static void comes() {
        Sentence.of(13, "What a PASS is (likewise)", () -> {
            int[] now = {60, 71, 80, 121, 160, 201};
            for (int k = 0; k < 6; k++) {
                due("comes(" + k + ")", Tale.full().comes(k), now[k]);
                int asked = k;
                if (k < 3) {
                    Tale.onlyAsked("comes(" + k + ")", x -> x.comes(asked));
                }
            }
        });
        Sentence.of(13, "-6: no such PASS.", () -> {
            for (int k : Sentence.outside(0, 2)) {
                Tale.refused("comes(" + k + ")", -6, x -> x.comes(k));
            }
            Tale.refused(ThrownBack::new, "comes(0) of none", -6, x -> x.comes(0));
            Tale.refused(Tale::full, "comes(6) of 6", -6, x -> x.comes(6));
        });
    }
}
