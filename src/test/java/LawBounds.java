/** The boundaries of promises 1 to 7: a new object and the law. */
public final class LawBounds {
    private static final int BAD = -2;
    private static final int STATE = -3;
    private static final int FULL = -4;
    private static final String REST = ";takes 1;lifts 1;";

    private LawBounds() { }

    public static void main(String[] args) {
        newObject();
        count();
        set();
        feed();
        text();
        tokens();
        grammar();
        open();
        numbers();
        force();
        asks();
        Sentence.end("LawBounds", 1, 7);
    }

    private static void due(String call, long got, long want) {
        Check.due(call, got, want);
    }

    private static void newObject() {
        Sentence.of(1, "No OWNERS, no PASSES, no snow.", () -> {
            ThrownBack x = new ThrownBack();
            due("count(0)", x.count(0), 0);
            due("count(1)", x.count(1), 0);
            due("told(0, 0)", x.told(0, 0), -5);
            due("comes(0)", x.comes(0), -6);
            for (int i = 0; i < 12; i++) {
                due("taken(" + i + ", 0)", x.taken(i, 0), -11);
            }
            for (int i = 12; i < 18; i++) {
                due("taken(" + i + ", 6)", x.taken(i, 6), 0);
            }
        });
        Sentence.of(1, "THE HOUR (0 .. 999; 0 at first), THE LIMIT (0 .. 999; 10 at first)", () -> {
            ThrownBack x = new ThrownBack();
            due("count(2)", x.count(2), 0);
            due("count(3)", x.count(3), 10);
        });
        Sentence.of(1, "TEXT 0, at first, and THE LAW", () -> {
            ThrownBack x = new ThrownBack();
            due("count(4)", x.count(4), 1);
            due("count(5)", x.count(5), 0);
            due("count(6)", x.count(6), 0);
            due("owner(0, 0)", x.owner(0, 0), 0);
            due("falls", x.asks(0, 0, 0), 2);
            due("takes", x.asks(1, 0, 0), 3);
            due("takes, a WALL of 95", x.asks(1, 0, 95), 98);
            due("takes, a WALL of 96", x.asks(1, 0, 96), 99);
            due("takes, a WALL of 97", x.asks(1, 0, 97), 99);
            due("lifts", x.asks(2, 0, 0), 1);
        });
        Sentence.of(1, "or missing (as all are at first)", () -> {
            for (int s = 0; s < 4; s++) {
                due("judge(" + s + ", 0)", new ThrownBack().judge(s, 0), -11);
            }
        });
        Sentence.of(1, "No OWNERS", () -> due("back()", new ThrownBack().back(), STATE));
    }

    private static void count() {
        Sentence.of(2, "0 OWNERS, 1 PASSES, 2 THE HOUR, 3 THE LIMIT, 4 TEXTS, 5 THE LAW, 6 bytes of THE TAPE", () -> {
            ThrownBack x = Tale.full();
            int[] most = {12, 6, 99, 999, 6, 5, 160};
            for (int what = 0; what < 7; what++) {
                due("count(" + what + ") of all there may be", x.count(what), most[what]);
            }
        });
        Sentence.of(2, "BAD.", () -> {
            for (int what : Sentence.outside(0, 6)) {
                Tale.refused("count(" + what + ")", BAD, x -> x.count(what));
            }
        });
        Sentence.of(2, "What is asked changes nothing", () -> {
            for (int what = 0; what < 7; what++) {
                int asked = what;
                Tale.onlyAsked("count(" + what + ")", x -> x.count(asked));
            }
        });
    }

    private static void set() {
        Sentence.of(3, "THE HOUR (what 0; 0 .. 99)", () -> {
            ThrownBack x = new ThrownBack();
            due("set(0, 99)", x.set(0, 99), 0);
            due("set(0, 0)", x.set(0, 0), 99);
            due("set(0, 0) again", x.set(0, 0), 0);
            for (int v : Sentence.outside(0, 99)) {
                Tale.refused("set(0, " + v + ")", -7, y -> y.set(0, v));
            }
        });
        Sentence.of(3, "THE LIMIT (1)", () -> {
            ThrownBack x = new ThrownBack();
            due("set(1, 999)", x.set(1, 999), 10);
            due("set(1, 0)", x.set(1, 0), 999);
            due("set(1, 10)", x.set(1, 10), 0);
            due("the hour stays", x.count(2), 0);
            for (int v : Sentence.outside(0, 999)) {
                Tale.refused("set(1, " + v + ")", -7, y -> y.set(1, v));
            }
        });
        Sentence.of(3, "what it was", () -> {
            ThrownBack x = new ThrownBack();
            x.set(0, 99);
            x.live();
            due("set(0, 5) behind HOUR 99", x.set(0, 5), 100);
            due("count(2)", x.count(2), 5);
        });
        Sentence.of(3, "-5: what; -7: v.", () -> {
            for (int what : Sentence.outside(0, 1)) {
                Tale.refused("set(" + what + ", 5)", -5, x -> x.set(what, 5));
                Tale.refused("set(" + what + ", -1)", -5, x -> x.set(what, -1));
            }
        });
    }

    private static int feeds(ThrownBack x, int n, int[] v) {
        return x.feed(n, v[0], v[1], v[2], v[3], v[4]);
    }

    private static ThrownBack taped(int size) {
        ThrownBack x = new ThrownBack();
        Check.feedAll(x, " ".repeat(size));
        return x;
    }

    private static void feed() {
        Sentence.of(4, "The first n (1 .. 5) of five bytes", () -> {
            due("feed(1, ..)", new ThrownBack().feed(1, 1, 1, 1, 1, 1), 1);
            due("feed(5, ..)", new ThrownBack().feed(5, 1, 1, 1, 1, 1), 5);
            for (int n : Sentence.outside(1, 5)) {
                Tale.refused("feed(" + n + ", ..)", BAD, x -> x.feed(n, 1, 1, 1, 1, 1));
            }
            for (int n = 1; n <= 5; n++) {
                // n blanks come; a byte too many or too few would be at another place
                ThrownBack x = new ThrownBack();
                int[] v = {32, 32, 32, 32, 32};
                for (int i = n; i < 5; i++) {
                    v[i] = 255;
                }
                due("feed(" + n + ", ..)", feeds(x, n, v), n);
                due("no byte of the others", x.text(), -100 - n);
            }
        });
        Sentence.of(4, "(0 .. 255 each)", () -> {
            for (int i = 0; i < 5; i++) {
                for (int byt : new int[] {0, 255}) {
                    int[] v = {1, 1, 1, 1, 1};
                    v[i] = byt;
                    due(byt + " at " + i, feeds(new ThrownBack(), 5, v), 5);
                }
            }
        });
        Sentence.of(4, "BAD: n, any of the five", () -> {
            for (int i = 0; i < 5; i++) {
                for (int byt : Sentence.outside(0, 255)) {
                    int[] v = {1, 1, 1, 1, 1};
                    v[i] = byt;
                    Tale.refused(byt + " at " + i + ", of one", BAD, x -> feeds(x, 1, v));
                    Tale.refused(byt + " at " + i + ", of five", BAD, x -> feeds(x, 5, v));
                }
            }
        });
        Sentence.of(4, "come behind THE TAPE's, one by one: how many it has", () -> {
            ThrownBack x = new ThrownBack();
            due("feed(3, ..)", x.feed(3, 32, 'f', 'a', 0, 0), 3);
            due("feed(5, ..)", x.feed(5, 'l', 'l', 's', 32, 255), 8);
            due("the fifth is behind the fourth", x.text(), -107);
        });
        Sentence.of(4, "FULL: they have not all room (none comes)", () -> {
            due("feed(5, ..) at 155", taped(155).feed(5, 1, 1, 1, 1, 1), 160);
            due("feed(1, ..) at 159", taped(159).feed(1, 1, 1, 1, 1, 1), 160);
            for (int n = 1; n <= 5; n++) {
                int many = n;
                Tale.refused(() -> taped(161 - many), "feed(" + n + ", ..) at " + (161 - n), FULL, x -> x.feed(many, 1, 1, 1, 1, 1));
                Tale.refused(() -> taped(160), "feed(" + n + ", ..) at 160", FULL, x -> x.feed(many, 1, 1, 1, 1, 1));
            }
        });
        Sentence.of(4, "BAD: n, any of the five; FULL", () -> {
            Tale.refused(() -> taped(160), "feed(6, ..) at 160", BAD, x -> x.feed(6, 1, 1, 1, 1, 1));
            Tale.refused(() -> taped(160), "feed(0, ..) at 160", BAD, x -> x.feed(0, 1, 1, 1, 1, 1));
            Tale.refused(() -> taped(160), "feed(1, .., 256) at 160", BAD, x -> x.feed(1, 1, 1, 1, 1, 256));
        });
        Sentence.of(4, "THE TAPE (160 bytes at most)", () -> {
            ThrownBack x = taped(160);
            due("text()", x.text(), -260);
            due("feedAll of 160 more", Check.feedAll(x, " ".repeat(160)), 160);
        });
    }

    private static void fault(String text, int place) {
        due("text() of '" + text + "'", Check.text(new ThrownBack(), text), -100 - place);
    }

    private static void stands(String text) {
        due("text() of '" + text + "'", Check.text(new ThrownBack(), text), 1);
    }

    private static ThrownBack sixTexts(String tape) {
        ThrownBack x = new ThrownBack();
        for (int t = 1; t < 6; t++) {
            Check.text(x, "falls " + t + REST);
        }
        Check.feedAll(x, tape);
        return x;
    }

    private static void text() {
        Sentence.of(5, "THE TAPE, which is empty then (by a FAULT, too), is a TEXT: its number", () -> {
            ThrownBack x = new ThrownBack();
            Check.feedAll(x, "falls 1" + REST);
            due("count(6)", x.count(6), 24);
            due("text()", x.text(), 1);
            due("count(6)", x.count(6), 0);
            Check.feedAll(x, "falls");
            due("text() of a FAULT", x.text(), -105);
            due("count(6) by a FAULT", x.count(6), 0);
            due("count(4) by a FAULT", x.count(4), 2);
            due("text() of nothing", x.text(), -100);
            due("feed() then", x.feed(1, 1, 1, 1, 1, 1), 1);
            ThrownBack y = new ThrownBack();
            due("a FAULT at the end", Check.text(y, "falls 5+6;takes 7;lifts 8"), -125);
            due("a TEXT then", Check.text(y, "falls 1;takes 2;lifts 3;"), 1);
            y.owner(0, 0);
            y.force(1);
            for (int part = 0; part < 3; part++) {
                due("nothing stays of what was at FAULT", y.asks(part, 0, 0), part + 1);
            }
        });
        Sentence.of(5, "-100 less the place of its FAULT", () -> {
            fault("", 0);
            fault("!", 0);
            fault(" ", 1);
            fault(" ".repeat(159) + "!", 159);
            fault(" ".repeat(160), 160);
        });
        Sentence.of(5, "TEXTS are numbered from 0 on, 6 at most", () -> {
            ThrownBack x = sixTexts("");
            due("count(4)", x.count(4), 6);
            due("force(5)", x.force(5), 0);
            due("force(6)", x.force(6), BAD);
        });
        Sentence.of(5, "FULL (ahead of the FAULT; then THE TAPE stays)", () -> {
            Tale.refused(() -> sixTexts("wrong"), "text() of a FAULT", FULL, ThrownBack::text);
            Tale.refused(() -> sixTexts("falls 1" + REST), "text() of none", FULL, ThrownBack::text);
            Tale.refused(() -> sixTexts(""), "text() of nothing", FULL, ThrownBack::text);
            ThrownBack x = sixTexts("wrong");
            x.text();
            due("feed(1, ..) behind it", x.feed(1, 1, 1, 1, 1, 1), 6);
        });
    }

    private static void tokens() {
        Sentence.of(5, "WORDS (as many letters a .. z as stand there)", () -> {
            fault("fallstakes 1", 0);
            fault("falls hourz" + REST, 6);
            fault("falls hou" + REST, 6);
            fault("falls a" + REST, 6);
            fault("falls z" + REST, 6);
            fault("falls hour`" + REST, 10);
            fault("falls hour{" + REST, 10);
            fault("falls Hour" + REST, 6);
            fault("falls houR" + REST, 6);
            fault("falls " + "z".repeat(154), 6);
            stands("falls 1or 1" + REST);
        });
        Sentence.of(5, "NUMBERS (as many digits as stand there; more than 4 are too long)", () -> {
            stands("falls 0" + REST);
            stands("falls 0000" + REST);
            stands("falls 9999" + REST);
            fault("falls 00000" + REST, 6);
            fault("falls 10000" + REST, 6);
            fault("falls 1+99999" + REST, 8);
            fault("falls " + "9".repeat(154), 6);
            fault("falls 12 34" + REST, 9);
            fault("falls 1/1" + REST, 7);
            fault("falls 1:1" + REST, 7);
        });
        Sentence.of(5, "SIGNS ( ) ; + - * < =", () -> {
            stands("falls(1)+1-1*1<1;takes 1=1;lifts 1;");
            for (int sign : new int[] {0, 33, 39, 44, 46, 47, 58, 62, 63, 64, 91, 96, 123, 127, 128, 255}) {
                fault("falls 1 " + (char) sign + " 1" + REST, 8);
            }
            // of none of these is a sign longer than one byte
            fault("falls 1 << 1" + REST, 9);
            fault("falls 1 == 1" + REST, 9);
        });
        Sentence.of(5, "blanks (32, 10) may stand between", () -> {
            stands(" \n falls \n 1 \n ; \n takes \n 1 \n ; \n lifts \n 1 \n ; \n ");
            stands("falls1;takes1;lifts1;");
            for (int blank : new int[] {0, 9, 11, 12, 13, 31, 33, 133, 160}) {
                fault("falls" + (char) blank + "1" + REST, 5);
            }
            fault("fal ls 1" + REST, 0);
            fault("falls 1 < = 1" + REST, 10);
        });
    }

    private static void grammar() {
        Sentence.of(5, "TEXT: falls E ; takes E ; lifts E ;", () -> {
            stands("falls 1;takes 1;lifts 1;");
            fault("takes 1;takes 1;lifts 1;", 0);
            fault("falls 1;falls 1;lifts 1;", 8);
            fault("falls 1;takes 1;takes 1;", 16);
            fault("falls 1;takes 1;lifts 1;;", 24);
            fault("falls 1;takes 1;lifts 1; falls 1;", 25);
            fault("falls ;takes 1;lifts 1;", 6);
            fault("falls 1,takes 1;lifts 1;", 7);
            fault("falls 1 takes 1;lifts 1;", 8);
        });
        Sentence.of(5, "the text's size, if it ends too early", () -> {
            String all = "falls 1;takes 1;lifts 1;";
            for (int size = 0; size < all.length(); size++) {
                int isCut = size == 1 || size == 2 || size == 3 || size == 4 ? 0
                        : size >= 9 && size <= 12 ? 8 : size >= 17 && size <= 20 ? 16 : size;
                fault(all.substring(0, size), isCut);
            }
            fault("falls 1;takes 1;lifts 1 \n ", 26);
            fault("falls (", 7);
            fault("falls 1 +", 9);
            fault("falls not ", 10);
        });
        Sentence.of(5, "the first byte of the first TOKEN that can't stand there", () -> {
            // what is no TOKEN counts as none that was there before
            fault("falls not xor 1" + REST, 10);
            fault("falls -xor 1" + REST, 7);
            fault("falls -! 1" + REST, 7);
            fault("falls -12345" + REST, 7);
            fault("falls (xor 1)" + REST, 7);
            fault("falls 1+xor 1" + REST, 8);
            fault("falls ()" + REST, 7);
            fault("falls (1+)" + REST, 9);
            fault("falls (1;takes 1);lifts 1;", 8);
            for (String end : new String[] {"!", "xor", "99999", "1", "falls", ")"}) {
                fault("falls 1;takes 1;lifts 1;" + end, 24);
                fault("falls 1;takes 1;lifts 1; " + end + " ", 25);
            }
            fault("falls ) 99999 !", 6);
            fault("falls 1 99999 !", 8);
            fault("falls 1 ! )", 8);
            fault("falls 1   \n  wall" + REST, 13);
        });
        Sentence.of(5, "a WORD that is neither KEY nor NAME", () -> {
            for (String key : new String[] {"falls", "takes", "lifts", "or", "and", "xor"}) {
                fault("falls " + key + REST, 6);
            }
            for (String name : new String[] {"hour", "wall", "more", "heap", "gate", "passes"}) {
                stands("falls " + name + REST);
                fault(name + " 1" + REST, 0);
            }
        });
        Sentence.of(5, "NOT: not NOT, or SUM, perhaps < or = and a SUM", () -> {
            stands("falls 1 < 2" + REST);
            stands("falls not 1 = 2" + REST);
            fault("falls 1 < 2 < 3" + REST, 12);
            fault("falls 1 = 2 < 3" + REST, 12);
            fault("falls < 2" + REST, 6);
            fault("falls 1 < not 2" + REST, 10);
            fault("falls 1 + not 2" + REST, 10);
            stands("falls 1 < 2 and 2 < 3 or 3 < 4" + REST);
            stands("falls (1 < 2) < (3 < 4)" + REST);
        });
    }

    private static void open() {
        Sentence.of(5, "a ( , a not, a - ahead of a ONE while 5 of these are open", () -> {
            stands("falls (((((1)))))" + REST);
            fault("falls ((((((1))))))" + REST, 11);
            stands("falls not not not not not 1" + REST);
            fault("falls not not not not not not 1" + REST, 26);
            stands("falls -----1" + REST);
            fault("falls ------1" + REST, 11);
            stands("falls not(-(-1))" + REST);
            stands("falls not(-(-hour))<2 and 1" + REST);
            fault("falls not(-(-(1)))" + REST, 13);
            fault("falls not(-(--1))" + REST, 13);
            fault("falls not((((not 1))))" + REST, 13);
        });
        Sentence.of(5, "(a ( till its ) , not and - till what they belong to ends)", () -> {
            stands("falls (((((1)))))+(((((1)))))" + REST);
            stands("falls -----1-----1" + REST);
            fault("falls -----1------1-" + REST, 20);
            fault("falls 1-------1" + REST, 13);
            stands("falls not not not not not 1 and not not not not not 1" + REST);
            fault("falls not not not not not 1+(1)" + REST, 28);
            fault("falls not not not not not 1<-1" + REST, 28);
            stands("falls not not not not 1+(1)<(1)*-1" + REST);
            fault("falls -(-(-(1)))" + REST, 11);
            stands("falls -(-(-1))*(-(-(1)))" + REST);
            stands("falls ((((-1+-1))))" + REST);
            fault("falls ((((-(1)))))" + REST, 11);
        });
    }

    /** What a text that says this says, of OWNER 1 with MORE 4, HEAP 30, at HOUR 9, behind 2 PASSES. */
    private static void says(String sum, int want) {
        ThrownBack x = new ThrownBack();
        x.owner(9, 0);
        x.owner(4, 0);
        x.put(1, 1, 30);
        x.pass(1, 1);
        x.pass(1, 1);
        x.set(0, 9);
        x.force(Check.text(x, "falls " + sum + ";takes " + sum + ";lifts " + sum + ";"));
        for (int part = 0; part < 3; part++) {
            due("asks(" + part + ", 1, 7) by " + sum, x.asks(part, 1, 7), want);
        }
    }

    private static void numbers() {
        Sentence.of(5, "An E is an int (32 bits, wrapping)", () -> {
            // 32768 times 65536 is the least int, one less the greatest
            says("8*4096*256*256<0", 1);
            says("8*4096*256*256-1<0", 0);
            says("8*4096*256*256-1=2*-1-8*4096*-256*256+1", 1);
            says("256*256*256*256", 0);
            says("256*256*256*256+7", 7);
            says("-(8*4096*256*256)<0", 1);
            says("8*4096*256*256=-(8*4096*256*256)", 1);
            says("9999*9999*9999*9999<0", wrapped(9999, 4) < 0 ? 1 : 0);
        });
        Sentence.of(5, "= 1 or 0 (what is not 0 is true)", () -> {
            for (String no : new String[] {"0 or 0", "1 and 0", "0 and 1", "not 1", "not -1", "1<1", "2<1", "1=2"}) {
                says("5+(" + no + ")", 5);
            }
            for (String yes : new String[] {"1 or 0", "0 or 1", "9 or 9", "1 and 1", "9 and -9", "not 0", "1<2", "-2<-1", "9=9"}) {
                says("5+(" + yes + ")", 6);
            }
            says("not -1", 0);
            says("-1 and -1", 1);
            says("-1 or 0", 1);
            says("0 and -1", 0);
            says("0 or 0", 0);
            says("not 0", 1);
            says("9 and 9", 1);
            says("9 or 9", 1);
            says("5<5", 0);
            says("4<5", 1);
            says("-5<-4", 1);
            says("5=5", 1);
            says("5=-5", 0);
        });
        Sentence.of(5, "(0 .. 99 each, else the bound)", () -> {
            says("-1", 0);
            says("0", 0);
            says("99", 99);
            says("100", 99);
            says("9999", 99);
            says("8*4096*256*256", 0);
            says("8*4096*256*256-1", 99);
        });
    }

    private static int wrapped(int factor, int times) {
        int product = 1;
        for (int i = 0; i < times; i++) {
            product *= factor;
        }
        return product;
    }

    private static void force() {
        Sentence.of(6, "A TEXT is THE LAW: which was", () -> {
            ThrownBack x = sixTexts("");
            due("force(0)", x.force(0), 0);
            due("force(5)", x.force(5), 0);
            due("force(5) again", x.force(5), 5);
            due("force(1)", x.force(1), 5);
            due("count(5)", x.count(5), 1);
        });
        Sentence.of(6, "BAD.", () -> {
            for (int t : Sentence.outside(0, 2)) {
                Tale.refused("force(" + t + ") of 3", BAD, x -> x.force(t));
            }
            Tale.refused(Tale::full, "force(6) of 6", BAD, x -> x.force(6));
            Tale.refused(ThrownBack::new, "force(1) of 1", BAD, x -> x.force(1));
        });
    }

    private static void asks() {
        Sentence.of(7, "What part 0 falls, 1 takes, 2 lifts says", () -> {
            ThrownBack x = new ThrownBack();
            x.owner(0, 0);
            due("asks(0, 0, 0)", x.asks(0, 0, 0), 2);
            due("asks(2, 0, 0)", x.asks(2, 0, 0), 1);
            for (int part : Sentence.outside(0, 2)) {
                Tale.refused("asks(" + part + ", 0, 0)", BAD, y -> y.asks(part, 0, 0));
            }
        });
        Sentence.of(7, "told of an OWNER (of falls, too)", () -> {
            ThrownBack x = Tale.full();
            due("asks(1, 11, 0)", x.asks(1, 11, 0), 99);
            for (int g : Sentence.outside(0, 4)) {
                Tale.refused("asks(0, " + g + ", 0)", BAD, y -> y.asks(0, g, 0));
            }
            Tale.refused(Tale::full, "asks(0, 12, 0)", BAD, y -> y.asks(0, 12, 0));
            Tale.refused(ThrownBack::new, "asks(0, 0, 0) of no OWNER", BAD, y -> y.asks(0, 0, 0));
            says("heap", 30);
            says("more", 4);
            says("gate", 1);
            says("hour", 9);
            says("passes", 2);
        });
        Sentence.of(7, "wall (lies, 0 .. 999) as told", () -> {
            ThrownBack x = new ThrownBack();
            x.owner(0, 0);
            x.put(0, 0, 50);
            x.force(Check.text(x, "falls wall-950;takes wall-950;lifts wall;"));
            due("asks(0, 0, 999)", x.asks(0, 0, 999), 49);
            due("asks(1, 0, 999)", x.asks(1, 0, 999), 49);
            due("asks(2, 0, 0)", x.asks(2, 0, 0), 0);
            for (int lies : Sentence.outside(0, 999)) {
                Tale.refused("asks(1, 0, " + lies + ")", BAD, y -> y.asks(1, 0, lies));
            }
        });
        Sentence.of(7, "What is asked changes nothing", () -> {
            for (int part = 0; part < 3; part++) {
                int asked = part;
                Tale.onlyAsked("asks(" + part + ", 4, 7)", x -> x.asks(asked, 4, 7));
            }
        });
    }
}
