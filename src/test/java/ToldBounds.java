/** The boundaries of promises 22 to 26: told walls. */
public final class ToldBounds {
    private static final int BAD = -2;
    private static final int ALL_HOURS = (1 << 24) - 1;

    private ToldBounds() { }

    public static void main(String[] args) {
        judge();
        kinds();
        hours();
        laws();
        film();
        Sentence.end("ToldBounds", 22, 26);
    }

    private static void due(String call, long got, long want) {
        Check.due(call, got, want);
    }

    private static ThrownBack by(String text) {
        ThrownBack x = new ThrownBack();
        x.force(Check.text(x, text));
        return x;
    }

    /** A row of a sort as long as there are OWNERS and so many more, before SHEETS 0 .. 3 of all else. */
    private static ThrownBack told(boolean isFull, int s, int sort, int more) {
        ThrownBack x = isFull ? Tale.full() : Tale.some();
        x.sheet(s, sort, x.count(0) + more);
        return x;
    }

    /** What all four have: refused of a SHEET, of none, of a wrong size, whatever comes behind. */
    private static void refusedSheets(String call, Tale.OfGate asked) {
        for (int s : Sentence.outside(0, 3)) {
            Tale.refused(call + " of SHEET " + s, BAD, x -> asked.of(x, s));
            Tale.refused(ThrownBack::new, call + " of SHEET " + s, BAD, x -> asked.of(x, s));
        }
        Tale.refused(call + " of no SHEET", -11, x -> asked.of(x, 3));
        Tale.refused(ThrownBack::new, call + " of no SHEET, for no OWNERS", -11, x -> asked.of(x, 0));
        for (int sort = 0; sort < 3; sort++) {
            int which = sort;
            for (int more : new int[] {-5, -1, 1, 35}) {
                Tale.refused(() -> told(false, 0, which, more), call + ", " + more + " more", BAD, x -> asked.of(x, 0));
            }
            for (int more : new int[] {-12, -1, 1, 28}) {
                Tale.refused(() -> told(true, 3, which, more), call + " of 12, " + more + " more", BAD, x -> asked.of(x, 3));
            }
        }
    }

    /** Twelve with WALLS 20 .. 31, who come at HOURS 0 .. 11. */
    private static ThrownBack twelve() {
        ThrownBack x = by("falls 0;takes 1;lifts 0;");
        for (int g = 0; g < 12; g++) {
            x.owner(0, g);
            x.put(g, 0, 20 + g);
        }
        return x;
    }

    private static void judge() {
        Sentence.of(22, "the first that is otherwise; -1: none", () -> {
            for (int sort = 0; sort < 3; sort++) {
                ThrownBack x = twelve();
                x.sheet(3, sort, 12);
                for (int g = 0; g < 12; g++) {
                    due("judge(3, 0), " + g + " are told", x.judge(3, 0), g);
                    x.cell(3, g, 20 + g);
                }
                due("judge(3, 0), all are told", x.judge(3, 0), -1);
                due("judge(3, 1)", x.judge(3, 1), 0);
                x.cell(3, 11, 30);
                due("judge(3, 0), one less", x.judge(3, 0), 11);
                x.cell(3, 11, 32);
                due("judge(3, 0), one more", x.judge(3, 0), 11);
                x.cell(3, 0, -20);
                due("judge(3, 0), below 0", x.judge(3, 0), 0);
            }
        });
        Sentence.of(22, "A SHEET tells the WALL of each GATE behind n (0 .. 48) HOURS", () -> {
            // the 48th HOUR is 47: 1 falls then and comes before the GATE; at HOUR 48 there would be 2
            ThrownBack x = by("falls 46<hour;takes 1;lifts 0;");
            x.owner(0, 9);
            x.pass(23, 0);
            x.pass(0, 0);
            Check.tell(x, 0, 1);
            due("judge(0, 48)", x.judge(0, 48), -1);
            due("judge(0, 47)", x.judge(0, 47), 0);
            x.set(0, 1);
            due("judge(0, 47) an hour later", x.judge(0, 47), -1);
            due("judge(0, 48) an hour later", x.judge(0, 48), 0);
            for (int n : Sentence.outside(0, 48)) {
                Tale.refused("judge(2, " + n + ")", -7, y -> y.judge(2, n));
            }
        });
        Sentence.of(22, "WALL before it (0 .. 999; 0 as one comes)", () -> {
            ThrownBack x = by("falls 0;takes 1;lifts 0;");
            x.owner(0, 9);
            for (int wall : new int[] {0, 1, 127, 128, 255, 256, 998, 999}) {
                x.put(0, 0, wall);
                Check.tell(x, 0, wall);
                due("judge(0, 0) of " + wall, x.judge(0, 0), -1);
                for (int other : new int[] {wall - 1, wall + 1, -wall - 1, wall + 65536, Sentence.LEAST, Sentence.MOST}) {
                    Check.tell(x, 0, other);
                    due("judge(0, 0) of " + wall + " by " + other, x.judge(0, 0), 0);
                }
            }
        });
        Sentence.of(22, "BAD: SHEET; -11; BAD: it tells not as many as there are OWNERS; -7: n.", () -> {
            refusedSheets("judge(s, 0)", (x, s) -> x.judge(s, 0));
            refusedSheets("judge(s, 49)", (x, s) -> x.judge(s, 49));
            ThrownBack none = new ThrownBack();
            none.sheet(0, 0, 0);
            due("judge(0, 48) of no OWNERS", none.judge(0, 48), -1);
            due("judge(0, 49) of no OWNERS", none.judge(0, 49), -7);
        });
        Sentence.of(22, "What is asked changes nothing", () -> Tale.onlyAsked("judge(2, 48)", x -> x.judge(2, 48)));
    }

    /** One of a kind whose WALL of 7 is shovelled, or not, at HOUR 0, and comes back with a PASS at HOUR 5, when 1 falls. */
    private static ThrownBack suspect(int kindMore, int heap) {
        ThrownBack x = by("falls hour=5;takes 1;lifts 0;");
        x.owner(kindMore, 0);
        x.put(0, 0, 7);
        x.put(0, 1, heap);
        x.pass(5, 0);
        return x;
    }

    private static int kindsBy(ThrownBack x, int wall, int n, int sort) {
        Check.tell(x, 0, wall);
        return x.kinds(0, n, 0, sort);
    }

    private static void kinds() {
        Sentence.of(23, "KINDS (sort 0; bits 0 .. 5)", () -> {
            ThrownBack odd = suspect(1, 999);
            due("kinds, all behind no HOURS", kindsBy(odd, 7, 0, 0), 63);
            due("kinds, GREY alone does not come", kindsBy(odd, 7, 1, 0), 32);
            due("kinds, all others do", kindsBy(odd, 0, 1, 0), 31);
            due("kinds, OWNER alone and STRONG keep it off", kindsBy(odd, 1, 6, 0), 1 + 2);
            due("kinds, OWNER alone has but the new one", kindsBy(odd, 1, 7, 0), 1);
            due("kinds, the STRONG ones have none", kindsBy(odd, 0, 7, 0), 2 + 8);
            due("kinds, who threw it back, or never came", kindsBy(odd, 8, 7, 0), 4 + 16 + 32);
            due("kinds, none", kindsBy(odd, 9, 7, 0), 0);
        });
        Sentence.of(23, "MORE (1; bits 0 .. 9)", () -> {
            for (int heap = 0; heap < 100; heap += 10) {
                // a NEIGHBOUR throws back with MORE up to a tenth of the HEAP
                ThrownBack x = suspect(45, heap);
                int throwing = (2 << heap / 10) - 1;
                due("kinds, who threw it back at HEAP " + heap, kindsBy(x, 8, 6, 1), throwing);
                due("kinds, who did not at HEAP " + heap, kindsBy(x, 1, 6, 1), 1023 - throwing);
            }
            due("kinds, all", kindsBy(suspect(5, 0), 1, 6, 1), 1023);
            due("kinds, none", kindsBy(suspect(5, 0), 2, 6, 1), 0);
        });
        Sentence.of(23, "ONE'S HOURS (2; bits 0 .. 23)", () -> {
            for (int hour = 0; hour < 24; hour++) {
                ThrownBack x = by("falls 0;takes 1;lifts 0;");
                x.owner(5, 9);
                x.put(0, 0, 7);
                x.set(0, hour);
                due("kinds, in HOUR " + hour, kindsBy(x, 0, 1, 2), 1 << hour);
                due("kinds, not in HOUR " + hour, kindsBy(x, 7, 1, 2), ALL_HOURS - (1 << hour));
                due("kinds, in a day", kindsBy(x, 0, 24, 2), ALL_HOURS);
                due("kinds, none", kindsBy(x, 1, 24, 2), 0);
            }
        });
        Sentence.of(23, "by which, were they an OWNER's, that would be -1", () -> {
            // all twelve must be as told, not only the one asked of; n 0 and n 48
            ThrownBack x = twelve();
            x.film(1, 0);
            due("kinds(1, 0, 11, 0)", x.kinds(1, 0, 11, 0), 63);
            due("kinds(1, 0, 0, 2)", x.kinds(1, 0, 0, 2), ALL_HOURS);
            x.cell(1, 11, 0);
            due("kinds(1, 0, 0, 0), the last is otherwise", x.kinds(1, 0, 0, 0), 0);
            due("kinds(1, 0, 11, 0), the last is otherwise", x.kinds(1, 0, 11, 0), 0);
            x.film(1, 48);
            due("kinds(1, 48, 11, 2)", x.kinds(1, 48, 11, 2), ALL_HOURS);
        });
        Sentence.of(23, "BAD, -11, BAD likewise; -5: no such OWNER; -7: n, sort.", () -> {
            refusedSheets("kinds(s, 0, 0, 0)", (x, s) -> x.kinds(s, 0, 0, 0));
            refusedSheets("kinds(s, 0, 12, 0)", (x, s) -> x.kinds(s, 0, 12, 0));
            refusedSheets("kinds(s, 49, 0, 3)", (x, s) -> x.kinds(s, 49, 0, 3));
            for (int g : Sentence.outside(0, 4)) {
                Tale.refused("kinds(2, 0, " + g + ", 0)", -5, x -> x.kinds(2, 0, g, 0));
                Tale.refused("kinds(2, 49, " + g + ", 3)", -5, x -> x.kinds(2, 49, g, 3));
            }
            for (int n : Sentence.outside(0, 48)) {
                Tale.refused("kinds(2, " + n + ", 4, 0)", -7, x -> x.kinds(2, n, 4, 0));
            }
            for (int sort : Sentence.outside(0, 2)) {
                Tale.refused("kinds(2, 0, 4, " + sort + ")", -7, x -> x.kinds(2, 0, 4, sort));
            }
            ThrownBack none = new ThrownBack();
            none.sheet(0, 0, 0);
            due("kinds(0, 0, 0, 0) of no OWNERS", none.kinds(0, 0, 0, 0), -5);
        });
        Sentence.of(23, "What is asked changes nothing", () -> {
            for (int sort = 0; sort < 3; sort++) {
                int asked = sort;
                Tale.onlyAsked("kinds(2, 48, 4, " + sort + ")", x -> x.kinds(2, 48, 4, asked));
            }
        });
    }

    private static void hours() {
        Sentence.of(24, "Behind how many HOURS (0 .. 48) that is -1: how many such numbers there are (what 0), the least (1; -1: none)", () -> {
            // 1 falls in the 48th or, by the other text, in the 49th HOUR, and comes before the GATE
            ThrownBack x = by("falls hour=47;takes 1;lifts 0;");
            x.owner(0, 9);
            x.pass(23, 0);
            Check.tell(x, 0, 0);
            due("hours(0, 0), none lies there in 0 .. 47", x.hours(0, 0), 48);
            due("hours(0, 1), none lies there in 0 .. 47", x.hours(0, 1), 0);
            Check.tell(x, 0, 1);
            due("hours(0, 0), 1 lies there in 48", x.hours(0, 0), 1);
            due("hours(0, 1), 1 lies there in 48", x.hours(0, 1), 48);
            x.move(0, 0, 0);
            x.force(Check.text(x, "falls hour=48;takes 1;lifts 0;"));
            due("hours(0, 0), in 49", x.hours(0, 0), 0);
            due("hours(0, 1), in 49", x.hours(0, 1), -1);
            Check.tell(x, 0, 0);
            due("hours(0, 0), all", x.hours(0, 0), 49);
            due("hours(0, 1), all", x.hours(0, 1), 0);
            x.put(0, 0, 5);
            due("hours(0, 1), behind HOUR 9", x.hours(0, 1), 10);
            due("hours(0, 0), behind HOUR 9", x.hours(0, 0), 39);
            Check.tell(x, 0, 5);
            due("hours(0, 0), till HOUR 9", x.hours(0, 0), 10);
        });
        Sentence.of(24, "BAD, -11, BAD likewise; -7: what.", () -> {
            refusedSheets("hours(s, 0)", (x, s) -> x.hours(s, 0));
            refusedSheets("hours(s, 2)", (x, s) -> x.hours(s, 2));
            for (int what : Sentence.outside(0, 1)) {
                Tale.refused("hours(2, " + what + ")", -7, x -> x.hours(2, what));
            }
            ThrownBack none = new ThrownBack();
            none.sheet(0, 0, 0);
            due("hours(0, 0) of no OWNERS", none.hours(0, 0), 49);
            due("hours(0, 1) of no OWNERS", none.hours(0, 1), 0);
        });
        Sentence.of(24, "What is asked changes nothing", () -> {
            Tale.onlyAsked("hours(2, 0)", x -> x.hours(2, 0));
            Tale.onlyAsked("hours(2, 1)", x -> x.hours(2, 1));
        });
    }

    private static void laws() {
        Sentence.of(25, "TEXTS (bits), were they THE LAW, by which that would be -1", () -> {
            // TEXT t lets t + 2 fall, which comes before the GATE; TEXT 0 lets fall 2
            ThrownBack x = new ThrownBack();
            x.owner(0, 9);
            x.pass(0, 0);
            for (int t = 0; t < 6; t++) {
                if (t > 0) {
                    due("text", Check.text(x, "falls " + (t + 2) + ";takes 1;lifts 0;"), t);
                }
                Check.tell(x, 0, t + 2);
                due("laws(0, 1), the last of " + (t + 1), x.laws(0, 1), 1 << t);
                Check.tell(x, 0, t + 3);
                due("laws(0, 1), none of " + (t + 1), x.laws(0, 1), 0);
                Check.tell(x, 0, 0);
                due("laws(0, 0), all of " + (t + 1), x.laws(0, 0), (2 << t) - 1);
                Check.tell(x, 0, 2);
                due("laws(0, 1), the first of " + (t + 1), x.laws(0, 1), 1);
            }
            x.force(5);
            due("laws(0, 1), whatever THE LAW is", x.laws(0, 1), 1);
            Check.tell(x, 0, 0);
            due("laws(0, 48)", x.laws(0, 48), 63);
        });
        Sentence.of(25, "BAD, -11, BAD, -7 likewise.", () -> {
            refusedSheets("laws(s, 0)", (x, s) -> x.laws(s, 0));
            refusedSheets("laws(s, 49)", (x, s) -> x.laws(s, 49));
            for (int n : Sentence.outside(0, 48)) {
                Tale.refused("laws(2, " + n + ")", -7, x -> x.laws(2, n));
            }
            ThrownBack none = new ThrownBack();
            none.sheet(0, 0, 0);
            due("laws(0, 48) of no OWNERS", none.laws(0, 48), 1);
        });
        Sentence.of(25, "What is asked changes nothing", () -> Tale.onlyAsked("laws(2, 48)", x -> x.laws(2, 48)));
    }

    private static void film() {
        Sentence.of(26, "A SHEET truly becomes the WALLS of all GATES behind n HOURS (shorts): how many", () -> {
            for (int s = 0; s < 4; s++) {
                ThrownBack x = twelve();
                due("film(" + s + ", 0)", x.film(s, 0), 12);
                due("judge(" + s + ", 0)", x.judge(s, 0), -1);
                due("cell(" + s + ", 11, 31)", x.cell(s, 11, 31), 1);
                due("cell(" + s + ", 12, 0)", x.cell(s, 12, 0), -12);
                due("hours(" + s + ", 0)", x.hours(s, 0), 1);
                due("film(" + s + ", 12)", x.film(s, 12), 12);
                due("hours(" + s + ", 1)", x.hours(s, 1), 12);
                for (int sort = 0; sort < 3; sort++) {
                    due("ownersBy(" + s + ", " + sort + ", 0, 0)", x.ownersBy(s, sort, 0, 0), sort == 1 ? 0 : -13);
                }
            }
            // as ToldBounds.judge() has it: 1 lies there behind 48 HOURS, none behind 47
            ThrownBack last = by("falls 46<hour;takes 1;lifts 0;");
            last.owner(0, 9);
            last.pass(23, 0);
            due("film(0, 48)", last.film(0, 48), 1);
            due("hours(0, 1)", last.hours(0, 1), 48);
            last.film(0, 47);
            due("hours(0, 0)", last.hours(0, 0), 48);
            last.put(0, 0, 999);
            last.film(0, 0);
            due("judge(0, 0) of 999", last.judge(0, 0), -1);
        });
        Sentence.of(26, "A SHEET truly becomes the WALLS of all GATES", () -> {
            ThrownBack none = new ThrownBack();
            due("film(0, 48) of no OWNERS", none.film(0, 48), 0);
            due("cell(0, 0, 0) of no WALLS", none.cell(0, 0, 0), -12);
            due("judge(0, 0) of no WALLS", none.judge(0, 0), -1);
            // whatever the SHEET was, and nothing but the SHEET becomes otherwise
            for (int s = 0; s < 4; s++) {
                ThrownBack one = Tale.some();
                due("film(" + s + ", 0)", one.film(s, 0), 5);
                ThrownBack other = Tale.some();
                other.sheet(s, 1, 5);
                for (int g = 0; g < 5; g++) {
                    other.cell(s, g, other.told(g, 0));
                }
                due("judge of both", one.judge(s, 0), other.judge(s, 0));
                Tale.same("film(" + s + ", 0) of anything else", one, other);
            }
        });
        Sentence.of(26, "BAD.", () -> {
            for (int s : Sentence.outside(0, 3)) {
                Tale.refused("film(" + s + ", 0)", BAD, x -> x.film(s, 0));
            }
            for (int n : Sentence.outside(0, 48)) {
                Tale.refused("film(2, " + n + ")", BAD, x -> x.film(2, n));
                Tale.refused("film(3, " + n + ")", BAD, x -> x.film(3, n));
            }
        });
    }
}
