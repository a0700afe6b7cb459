/** Each promise of ../shared/DOC.md: ordinary calls, the edges that it names, wrong numbers. Worked out by hand. */
public final class PromiseTests {
    private static final int BAD = -2;
    private static final int FULL = -4;
    private static final int LEAST = Integer.MIN_VALUE;
    private static final int MOST = Integer.MAX_VALUE;

    private PromiseTests() { }

    private static void due(String call, long got, long want) {
        Check.due(call, got, want);
    }

    public static void main(String[] args) {
        newObject();
        count();
        set();
        feed();
        text();
        faults();
        tapes();
        says();
        force();
        asks();
        owner();
        put();
        told();
        pass();
        move();
        comes();
        live();
        kindsTake();
        kindsThrow();
        kindsCome();
        blades();
        facts();
        bounds();
        run();
        when();
        dig();
        blade();
        sides();
        gains();
        helps();
        judge();
        kinds();
        hours();
        laws();
        film();
        drawn();
        odds();
        image();
        sheet();
        cell();
        copy();
        ownersBy();
        taken();
        Check.end("PromiseTests");
    }

    /** An OWNER of the left at part 0, and a PASS to the left, so hours of both. */
    private static ThrownBack oneGate(int kindMore, int at, int passAt) {
        ThrownBack x = new ThrownBack();
        x.owner(kindMore, at);
        x.pass(passAt, 0);
        return x;
    }

    private static ThrownBack withLaw(ThrownBack x, String text) {
        int t = Check.text(x, text);
        due("text() of " + text, t, x.count(4) - 1);
        x.force(t);
        return x;
    }

    private static void newObject() {
        ThrownBack x = new ThrownBack();
        int[] atFirst = {0, 0, 0, 10, 1, 0, 0};
        for (int what = 0; what < atFirst.length; what++) {
            due("1 count " + what, x.count(what), atFirst[what]);
        }
        for (int p = 0; p < 6; p++) {
            due("1 part " + p, x.taken(12 + p, 6), 0);
        }
        due("1 no owner", x.taken(0, 0), -11);
        due("1 no image", x.back(), -3);
        for (int s = 0; s < 4; s++) {
            due("1 no sheet", x.cell(s, 0, 0), -11);
        }
    }

    private static void count() {
        ThrownBack x = new ThrownBack();
        x.owner(0, 0);
        x.owner(0, 0);
        x.pass(0, 0);
        x.set(0, 7);
        x.set(1, 8);
        x.force(Check.text(x, "falls 1;takes 1;lifts 1;"));
        x.feed(4, 1, 2, 3, 4, 5);
        int[] now = {2, 1, 7, 8, 2, 1, 4};
        for (int what = 0; what < now.length; what++) {
            due("2 count " + what, x.count(what), now[what]);
        }
        due("2 count -1", x.count(-1), BAD);
        due("2 count 7", x.count(7), BAD);
        due("2 count least", x.count(LEAST), BAD);
    }

    private static void set() {
        ThrownBack x = new ThrownBack();
        due("3 hour", x.set(0, 99), 0);
        due("3 hour again", x.set(0, 0), 99);
        due("3 hour 100", x.set(0, 100), -7);
        due("3 hour -1", x.set(0, -1), -7);
        due("3 limit", x.set(1, 999), 10);
        due("3 limit again", x.set(1, 0), 999);
        due("3 limit 1000", x.set(1, 1000), -7);
        due("3 limit -1", x.set(1, -1), -7);
        due("3 what 2", x.set(2, 1000), -5);
        due("3 what -1", x.set(-1, 0), -5);
        due("3 hour unchanged", x.count(2), 0);
        due("3 limit unchanged", x.count(3), 0);
    }

    private static void feed() {
        ThrownBack x = new ThrownBack();
        due("4 one", x.feed(1, 0, 255, 255, 255, 255), 1);
        due("4 five", x.feed(5, 255, 1, 2, 3, 4), 6);
        due("4 none", x.feed(0, 1, 1, 1, 1, 1), BAD);
        due("4 six", x.feed(6, 1, 1, 1, 1, 1), BAD);
        for (int i = 0; i < 5; i++) {
            int[] above = new int[5];
            int[] under = new int[5];
            above[i] = 256;
            under[i] = -1;
            due("4 256 at " + i, x.feed(1, above[0], above[1], above[2], above[3], above[4]), BAD);
            due("4 -1 at " + i, x.feed(1, under[0], under[1], under[2], under[3], under[4]), BAD);
        }
        for (int i = 0; i < 30; i++) {
            x.feed(5, 32, 32, 32, 32, 32);
        }
        due("4 so many", x.count(6), 156);
        due("4 no room for five", x.feed(5, 1, 1, 1, 1, 1), FULL);
        due("4 bad ahead of full", x.feed(5, 1, 1, 1, 1, 256), BAD);
        due("4 none came", x.count(6), 156);
        due("4 room for four", x.feed(4, 1, 1, 1, 1, 1), 160);
        due("4 no room for one", x.feed(1, 1, 1, 1, 1, 1), FULL);
        due("4 the first n come", new ThrownBack().feed(2, 1, 2, 3, 4, 5), 2);
    }

    private static void text() {
        ThrownBack x = new ThrownBack();
        for (int t = 1; t < 6; t++) {
            due("5 text " + t, Check.text(x, "falls " + t + ";takes 1;lifts 1;"), t);
            due("5 the tape is empty", x.count(6), 0);
        }
        Check.feedAll(x, "wrong");
        due("5 full ahead of the fault", x.text(), FULL);
        due("5 the tape stays", x.count(6), 5);
        due("5 texts", x.count(4), 6);
        ThrownBack y = new ThrownBack();
        due("5 nothing", y.text(), -100);
        due("5 a fault", Check.text(y, "falls x;"), -106);
        due("5 empty by a fault", y.count(6), 0);
        due("5 no text by a fault", y.count(4), 1);
        Check.text(y, "falls 7;takes 7;lifts 8");
        due("5 then a text", Check.text(y, "falls 1;takes 2;lifts 3;"), 1);
        y.owner(0, 0);
        y.force(1);
        for (int part = 0; part < 3; part++) {
            due("5 nothing of the faulty one stays", y.asks(part, 0, 0), part + 1);
        }
    }

    /** A full tape, and what stood on it ahead of a shorter text. */
    private static void tapes() {
        String blanks = " ".repeat(140);
        fault(blanks + "falls 1;takes 1;lift", 156);
        fault(blanks + "falls 1;takes 123456", 154);
        fault(blanks + "falls 1;takes 1;1234", 156);
        fault(blanks + "falls 1;takes (hour+", 160);
        fault(blanks + "falls 1;takes (hour)", 160);
        fault("a".repeat(160), 0);
        fault(" ".repeat(160), 160);
        stands(" ".repeat(136) + "falls 1;takes 1;lifts 1;");
        stands("falls 1" + "+1".repeat(60) + ";takes 1;lifts 1;");
        ThrownBack x = new ThrownBack();
        due("5 a longer one", Check.text(x, "falls 99999;"), -106);
        due("5 digits of the longer one", Check.text(x, "falls 9"), -107);
        due("5 another", Check.text(x, "falls wallxyz"), -106);
        due("5 letters of the longer one", Check.text(x, "falls wall"), -110);
    }

    private static void fault(String text, int place) {
        due("5 fault of " + text, Check.text(new ThrownBack(), text), -100 - place);
    }

    private static void stands(String text) {
        due("5 stands " + text, Check.text(new ThrownBack(), text), 1);
    }

    private static void faults() {
        String rest = ";takes 1;lifts 1;";
        stands("falls2;takes3or4;lifts1;");
        stands("\n falls\n2 ;takes\n3 ; lifts 1 ; \n");
        stands("falls 9999" + rest);
        stands("falls 0000" + rest);
        stands("falls ((((( 1 )))))" + rest);
        stands("falls not not not not not 1" + rest);
        stands("falls - - - - - 1" + rest);
        stands("falls not(not(-1))" + rest);
        stands("falls ((1)+(1))*((1)-((((1)))))" + rest);
        stands("falls -1-1-1-1-1-1-1-1" + rest);
        stands("falls not 1 and not 1 and not 1 and not 1 and not 1 and not 1 and not 1" + rest);
        stands("falls hour<wall and more=heap or gate*passes" + rest);
        stands("falls not 1 < 2" + rest);
        stands("falls (1<2)<3" + rest);
        fault("falls 12345" + rest, 6);
        fault("falls 00001" + rest, 6);
        fault("falls 1 +12345" + rest, 9);
        fault("falls (((((( 1 ))))))" + rest, 11);
        fault("falls not not not not not not 1" + rest, 26);
        fault("falls ------1" + rest, 11);
        fault("falls not(-(not(-1)))" + rest, 15);
        stands("falls not(-(not 1))" + rest);
        fault("falls not not not not not (1)" + rest, 26);
        fault("falls 1 < 2 < 3" + rest, 12);
        fault("falls 1 = 2 < 3" + rest, 12);
        fault("falls 1 + not 2" + rest, 10);
        fault("falls 1 < not 2" + rest, 10);
        fault("falls - not 2" + rest, 8);
        fault("falls ( 1" + rest, 9);
        fault("falls 1 )" + rest, 8);
        fault("falls ( )" + rest, 8);
        fault("falls 1 2" + rest, 8);
        fault("falls hour wall" + rest, 11);
        fault("falls or 1" + rest, 6);
        fault("falls falls" + rest, 6);
        fault("falls hours" + rest, 6);
        fault("falls hou" + rest, 6);
        fault("falls 1hour" + rest, 7);
        fault("falls A" + rest, 6);
        fault("falls 1\t+ 1" + rest, 7);
        fault("falls 1 > 1" + rest, 8);
        fault("falls " + (char) 255 + rest, 6);
        fault("fallshour" + rest, 0);
        fault("falls" + rest, 5);
        fault("falls 1 +" + rest, 9);
        fault("falls 1 *" + rest, 9);
        fault("falls 1 <" + rest, 9);
        fault("falls 1 and" + rest, 11);
        fault("falls 1 or" + rest, 10);
        fault("falls not" + rest, 9);
        fault("falls -" + rest, 7);
        fault("falls (1 +) " + rest, 10);
        fault("falls ((x))" + rest, 8);
        fault("falls hourz" + rest, 6);
        fault("falls wal l" + rest, 6);
        fault("takes 1;falls 1;lifts 1;", 0);
        fault("falls 1;lifts 1;takes 1;", 8);
        fault("falls 1;takes 1;lifts 1;;", 24);
        fault("falls 1;takes 1;lifts 1; falls", 25);
        fault("falls 1;takes 1;lifts 1", 23);
        fault("falls 1;takes 1;lifts 1  ", 25);
        fault("falls 1;takes 1;", 16);
        fault("falls", 5);
        fault("   ", 3);
        fault("falls 1 +", 9);
        fault("falls (1", 8);
    }

    /** What a text says in falls, told of OWNER 1 (MORE 4, HEAP 30) at HOUR 9, with 2 PASSES, wall 7. */
    private static void says(String sum, int want) {
        ThrownBack x = new ThrownBack();
        x.owner(0, 0);
        x.owner(4, 0);
        x.put(1, 1, 30);
        x.pass(1, 1);
        x.pass(1, 1);
        x.set(0, 9);
        withLaw(x, "falls " + sum + ";takes " + sum + ";lifts " + sum + ";");
        for (int part = 0; part < 3; part++) {
            due("5 says " + sum, x.asks(part, 1, 7), want);
        }
    }

    private static void says() {
        says("hour", 9);
        says("wall", 7);
        says("more", 4);
        says("heap", 30);
        says("gate", 1);
        says("passes", 2);
        says("1+2*3", 7);
        says("10-2-3", 5);
        says("2*(3+4)", 14);
        says("0-1+5", 4);
        says("-2*-3", 6);
        says("5--3", 8);
        says("1<2", 1);
        says("2<2", 0);
        says("3<2", 0);
        says("1+1=2", 1);
        says("1=2", 0);
        says("not 0", 1);
        says("not 7", 0);
        says("not not 7", 1);
        says("not 1<0", 1);
        says("not 2=1 and 5", 1);
        says("7 and 5", 1);
        says("7 and 0", 0);
        says("0 or 5", 1);
        says("0 or 0", 0);
        says("1 or 0 and 0", 1);
        says("(1 or 0) and 0", 0);
        says("40*(1<2)+2", 42);
        says("100", 99);
        says("99", 99);
        says("-1", 0);
        says("0-5", 0);
        // 65536 times 65536 is 0 in 32 bits; 46341 squared is below 0 there
        says("256*256*256*256+5", 5);
        says("9*5149*9*5149", 0);
        says("-(9*5149*9*5149)", 99);
    }

    private static void force() {
        ThrownBack x = new ThrownBack();
        due("6 none such", x.force(1), BAD);
        Check.text(x, "falls 5;takes 1;lifts 1;");
        due("6 there is", x.count(5), 0);
        due("6 one", x.force(1), 0);
        due("6 back", x.force(0), 1);
        due("6 -1", x.force(-1), BAD);
        due("6 2", x.force(2), BAD);
        due("6 unchanged", x.count(5), 0);
        x.force(1);
        x.live();
        due("6 it rules", x.taken(12, 6), 5);
    }

    private static void asks() {
        ThrownBack x = new ThrownBack();
        due("7 no owner", x.asks(0, 0, 0), BAD);
        x.owner(19, 3);
        due("7 falls", x.asks(0, 0, 0), 2);
        due("7 takes, not by the kind", x.asks(1, 0, 20), 23);
        due("7 takes, the bound", x.asks(1, 0, 999), 99);
        due("7 lifts", x.asks(2, 0, 0), 1);
        due("7 part 3", x.asks(3, 0, 0), BAD);
        due("7 part -1", x.asks(-1, 0, 0), BAD);
        due("7 owner 1", x.asks(0, 1, 0), BAD);
        due("7 owner -1", x.asks(0, -1, 0), BAD);
        due("7 lies 1000", x.asks(0, 0, 1000), BAD);
        due("7 lies -1", x.asks(0, 0, -1), BAD);
        x.put(0, 0, 50);
        due("7 wall as told", x.asks(1, 0, 1), 4);
    }

    private static void owner() {
        ThrownBack x = new ThrownBack();
        due("8 first", x.owner(0, 0), 0);
        due("8 greatest", x.owner(59, 23), 1);
        due("8 kind", x.told(1, 5), 5);
        due("8 more", x.told(1, 6), 9);
        due("8 hour", x.told(1, 3), 23);
        due("8 wall", x.told(1, 0), 0);
        due("8 kind 6", x.owner(60, 0), BAD);
        due("8 kind -1", x.owner(-1, 0), BAD);
        due("8 hour 24", x.owner(0, 24), BAD);
        due("8 hour -1", x.owner(0, -1), BAD);
        for (int g = 2; g < 12; g++) {
            due("8 owner " + g, x.owner(11, 1), g);
        }
        due("8 full", x.owner(0, 0), FULL);
        due("8 bad ahead of full", x.owner(60, 0), BAD);
        due("8 twelve", x.count(0), 12);
    }

    private static void put() {
        ThrownBack x = new ThrownBack();
        due("9 no owner", x.put(0, 0, 0), -5);
        due("9 no owner, wrong number", x.put(0, 9, 0), -5);
        x.owner(0, 5);
        int[] most = {999, 999, 99, 23, 1};
        int[] first = {0, 0, 0, 5, 0};
        for (int what = 0; what < 5; what++) {
            due("9 most of " + what, x.put(0, what, most[what]), first[what]);
            due("9 above of " + what, x.put(0, what, most[what] + 1), -7);
            due("9 below of " + what, x.put(0, what, -1), -7);
            due("9 told of " + what, x.told(0, what), most[what]);
            due("9 least of " + what, x.put(0, what, 0), most[what]);
        }
        due("9 what 5", x.put(0, 5, 0), -7);
        due("9 what -1", x.put(0, -1, 0), -7);
        due("9 owner -1", x.put(-1, 0, 0), -5);
    }

    private static void told() {
        ThrownBack x = new ThrownBack();
        due("10 no owner", x.told(0, 0), -5);
        x.owner(47, 5);
        x.owner(13, 6);
        x.owner(20, 7);
        for (int what = 0; what < 5; what++) {
            x.put(0, what, 1);
        }
        for (int what = 0; what < 5; what++) {
            due("10 told " + what, x.told(0, what), 1);
        }
        due("10 kind", x.told(0, 5), 4);
        due("10 more", x.told(0, 6), 7);
        x.set(0, 1);
        x.live();
        due("10 own part", x.told(1, 7), 2);
        // who threw it back at hour 1 is OWNER 0 (a NEIGHBOUR, HEAP 1 below 70: no)
        due("10 onto the heap", x.told(0, 1), 2);
        due("10 what 8", x.told(0, 8), -7);
        due("10 what -1", x.told(0, -1), -7);
        due("10 owner 3", x.told(3, 0), -5);
        due("10 owner -1", x.told(-1, 8), -5);
        ThrownBack y = new ThrownBack();
        y.owner(0, 0);
        y.owner(0, 0);
        y.owner(20, 0);
        y.put(2, 0, 30);
        y.live();
        due("10 part of 1", y.told(1, 7), 2);
        due("10 part of 2", y.told(2, 7), 32);
    }

    private static void pass() {
        ThrownBack x = new ThrownBack();
        due("11 first", x.pass(0, 0), 1);
        due("11 greatest", x.pass(23, 1), 2);
        due("11 hour 24", x.pass(24, 0), BAD);
        due("11 hour -1", x.pass(-1, 0), BAD);
        due("11 side 2", x.pass(0, 2), BAD);
        due("11 side -1", x.pass(0, -1), BAD);
        for (int k = 3; k <= 6; k++) {
            due("11 pass " + k, x.pass(1, 1), k);
        }
        due("11 full", x.pass(0, 0), FULL);
        due("11 bad ahead of full", x.pass(24, 0), BAD);
        due("11 six", x.count(1), 6);
    }

    private static void move() {
        ThrownBack x = new ThrownBack();
        due("12 no pass", x.move(0, 0, 0), -6);
        x.pass(7, 1);
        x.pass(8, 0);
        due("12 first", x.move(0, 23, 0), 71);
        due("12 again", x.move(0, 0, 1), 230);
        due("12 hour 24", x.move(0, 24, 0), -7);
        due("12 hour -1", x.move(0, -1, 0), -7);
        due("12 side 2", x.move(0, 0, 2), -7);
        due("12 side -1", x.move(0, 0, -1), -7);
        due("12 pass 2", x.move(2, 24, 0), -6);
        due("12 pass -1", x.move(-1, 0, 0), -6);
        due("12 unchanged", x.comes(0), 1);
        due("12 the other", x.comes(1), 80);
    }

    private static void comes() {
        ThrownBack x = new ThrownBack();
        due("13 no pass", x.comes(0), -6);
        x.pass(23, 1);
        x.pass(0, 0);
        due("13 first", x.comes(0), 231);
        due("13 second", x.comes(1), 0);
        due("13 pass 2", x.comes(2), -6);
        due("13 pass -1", x.comes(-1), -6);
    }

    private static void live() {
        // falls 2; at HOUR 1 the blade has 4, which stands before GATE 0; 3 and 4 minutes
        ThrownBack x = oneGate(0, 1, 1);
        due("14 hour 0", x.live(), 0);
        due("14 lies", x.taken(12, 6), 2);
        due("14 hour 1", x.live(), 7);
        due("14 heap", x.told(0, 1), 4);
        due("14 wall", x.told(0, 0), 0);
        due("14 lies no more", x.taken(12, 6), 0);
        due("14 hour 2", x.live(), 0);
        due("14 the hour", x.count(2), 3);
        due("14 lies again", x.taken(17, 6), 2);
        ThrownBack y = new ThrownBack();
        y.set(0, 99);
        ThrownBack sum = oneGate(0, 0, 0);
        sum.owner(0, 0);
        sum.put(1, 0, 10);
        due("14 minutes of all", sum.live(), 5 + 13);
        ThrownBack last = hourOf(999);
        due("14 full", last.live(), FULL);
        due("14 the hour stays", last.count(2), 999);
        due("14 the last", hourOf(998).live(), 0);
    }

    /** HOUR 99 can be set, further ones are lived: an object in which so many are over. */
    private static ThrownBack hourOf(int hour) {
        ThrownBack x = new ThrownBack();
        x.set(0, 99);
        for (int h = 99; h < hour; h++) {
            x.live();
        }
        return x;
    }

    private static void takes(int kindMore, int wall, int want) {
        ThrownBack x = withLaw(new ThrownBack(), "falls 0;takes wall;lifts 0;");
        x.owner(kindMore, 0);
        x.put(0, 0, wall);
        due("kinds " + kindMore + " takes, wall " + wall, x.live(), want);
    }

    private static void kindsTake() {
        takes(9, 7, 7);
        takes(19, 7, 3);
        takes(19, 1, 1);
        takes(29, 7, 7);
        takes(30, 20, 10);
        takes(34, 21, 6);
        takes(39, 20, 1);
        takes(39, 8, 1);
        takes(49, 7, 9);
        takes(40, 200, 101);
        takes(50, 7, 14);
        takes(50, 99, 198);
        takes(50, 500, 198);
        takes(10, 500, 49);
        takes(0, 0, 0);
        ThrownBack none = withLaw(new ThrownBack(), "falls 0;takes 0;lifts 0;");
        for (int kind = 0; kind < 6; kind++) {
            none.owner(10 * kind, 0);
            none.put(kind, 0, 1);
        }
        due("kinds take 1 at least, a NEIGHBOUR 2", none.live(), 7);
    }

    private static void throwsBack(int kindMore, int heap, boolean isSo) {
        ThrownBack x = withLaw(new ThrownBack(), "falls 0;takes 1;lifts 0;");
        x.owner(kindMore, 0);
        x.put(0, 0, 5);
        x.put(0, 1, heap);
        x.live();
        due("kinds " + kindMore + " heap " + heap, x.told(0, 1), isSo ? heap : heap + 5);
        due("kinds " + kindMore + " road " + heap, x.told(0, 7), isSo ? 5 : 0);
        due("kinds " + kindMore + " wall " + heap, x.told(0, 0), 0);
    }

    private static void kindsThrow() {
        throwsBack(0, 900, false);
        throwsBack(10, 900, false);
        throwsBack(50, 900, false);
        throwsBack(20, 0, true);
        throwsBack(29, 900, true);
        throwsBack(30, 20, false);
        throwsBack(30, 21, true);
        throwsBack(33, 80, false);
        throwsBack(33, 81, true);
        throwsBack(40, 0, true);
        throwsBack(43, 29, false);
        throwsBack(43, 30, true);
    }

    private static void comesAt(int kindMore, int at, int hour, boolean isSo) {
        ThrownBack x = withLaw(new ThrownBack(), "falls 0;takes 1;lifts 0;");
        x.owner(kindMore, at);
        x.put(0, 0, 5);
        x.set(0, hour);
        x.live();
        due("kinds " + kindMore + " comes, " + at + " in " + hour, x.told(0, 0), isSo ? 0 : 5);
    }

    private static void kindsCome() {
        int[] plain = {0, 20, 40};
        for (int kindMore : plain) {
            comesAt(kindMore, 5, 5, true);
            comesAt(kindMore, 5, 29, true);
            comesAt(kindMore, 5, 11, false);
            comesAt(kindMore, 5, 6, false);
        }
        int[] strong = {10, 30};
        for (int kindMore : strong) {
            comesAt(kindMore, 5, 5, true);
            comesAt(kindMore, 5, 11, true);
            comesAt(kindMore, 5, 35, true);
            comesAt(kindMore, 5, 23, false);
            comesAt(kindMore, 20, 2, true);
            comesAt(kindMore, 20, 26, true);
            comesAt(kindMore, 18, 0, true);
        }
        comesAt(50, 5, 5, true);
        comesAt(50, 5, 29, false);
        comesAt(50, 5, 53, true);
        comesAt(50, 5, 11, false);
        comesAt(51, 5, 5, false);
        comesAt(51, 5, 29, true);
        comesAt(58, 0, 48, true);
        comesAt(59, 0, 24, true);
    }

    private static void blades() {
        // twelve gates; 2 on each part; GATES 0, 4 lifted: 1 of what the blade has is lost there
        ThrownBack x = new ThrownBack();
        for (int g = 0; g < 12; g++) {
            x.owner(0, 23);
        }
        x.pass(0, 0);
        x.put(0, 4, 1);
        x.put(4, 4, 1);
        x.put(2, 2, 1);
        due("hour lost: 1, 1 in the bay, 1", x.run(1, 2), 3);
        x.live();
        int[] walls = {0, 0, 2, 0, 0, 0, 3, 0, 2, 0, 2, 0};
        for (int g = 0; g < 12; g++) {
            due("hour wall " + g, x.told(g, 0), walls[g]);
        }
        // all gates of the right lifted: carried behind the last
        ThrownBack y = withLaw(new ThrownBack(), "falls 3;takes 1;lifts gate;");
        for (int g = 0; g < 12; g++) {
            y.owner(0, 23);
            y.put(g, 4, 1);
        }
        y.pass(0, 1);
        due("hour lost of all", y.run(1, 2), 18);
        // lifts of what the blade has there: 3, then 2 (1 lost) and 3, ...
        ThrownBack z = withLaw(new ThrownBack(), "falls 3;takes 1;lifts wall-2;");
        z.owner(0, 23);
        z.owner(0, 23);
        z.owner(0, 23);
        z.put(0, 4, 1);
        z.pass(0, 0);
        z.live();
        due("hour lifts the wall", z.told(2, 0), 5);
        // nothing is lost by lifting, all is carried behind the last part
        ThrownBack over = withLaw(new ThrownBack(), "falls 3;takes 1;lifts 0;");
        for (int g = 0; g < 12; g += 1) {
            over.owner(0, 23);
            over.put(g, 4, 1);
        }
        over.pass(0, 0);
        due("hour lost behind part 5", over.run(1, 2), 18);
        // two passes of one hour, by numbers: the first has it all
        ThrownBack two = new ThrownBack();
        two.owner(0, 23);
        two.owner(0, 23);
        two.pass(0, 1);
        two.pass(0, 0);
        two.live();
        due("hour first pass", two.told(1, 0), 2);
        due("hour second pass", two.told(0, 0), 0);
        two.set(0, 24);
        two.live();
        due("hour modulo 24", two.told(1, 0), 4);
        // the bay takes as much in each pass
        ThrownBack bay = oneGate(0, 23, 0);
        bay.pass(1, 0);
        bay.put(0, 2, 1);
        bay.live();
        bay.live();
        due("hour bay twice", bay.told(0, 0), 2);
        due("hour bay as it was", bay.told(0, 2), 1);
        ThrownBack large = oneGate(0, 23, 0);
        large.put(0, 2, 99);
        due("hour bay takes no more than there is", large.run(1, 2), 12);
        due("hour no wall then", large.run(1, 50), 0);
    }

    /** What a text is told in an hour. */
    private static void facts() {
        ThrownBack falls = withLaw(new ThrownBack(), "falls 5+wall+more+heap+gate+10*passes+20*hour;takes 1;lifts 0;");
        falls.owner(3, 9);
        falls.owner(3, 9);
        falls.put(0, 0, 7);
        falls.put(0, 1, 8);
        falls.pass(9, 0);
        falls.set(0, 2);
        falls.live();
        due("hour falls, of no owner", falls.taken(12, 6), 5 + 10 + 40);
        ThrownBack takes = withLaw(new ThrownBack(), "falls 0;takes wall+10*more+heap+gate+10*passes+5*hour;lifts 0;");
        takes.owner(9, 5);
        takes.owner(3, 2);
        takes.put(1, 0, 7);
        takes.put(1, 1, 4);
        takes.pass(9, 0);
        takes.set(0, 2);
        due("hour takes, of the owner", takes.live(), 7 + 30 + 4 + 1 + 10 + 10);
        ThrownBack lifts = withLaw(new ThrownBack(), "falls 50;takes 1;lifts wall-50+2*more+heap+gate+passes+hour;");
        lifts.owner(9, 5);
        lifts.owner(3, 5);
        lifts.owner(0, 5);
        lifts.owner(0, 5);
        lifts.put(1, 0, 99);
        lifts.put(1, 1, 4);
        lifts.put(1, 4, 1);
        lifts.pass(2, 1);
        lifts.set(0, 2);
        lifts.live();
        due("hour lifts, of the owner", lifts.told(3, 0), 100 - 6 - 4 - 1 - 1 - 2);
    }

    private static void bounds() {
        ThrownBack x = withLaw(new ThrownBack(), "falls 99;takes 1;lifts 0;");
        for (int h = 0; h < 11; h++) {
            x.live();
        }
        due("hour 999 at most lies", x.taken(12, 6), 999);
        x.owner(0, 23);
        x.owner(0, 23);
        x.owner(0, 23);
        x.put(0, 4, 1);
        x.put(2, 0, 500);
        x.pass(11, 0);
        // parts 1: 999 carried and 999 lie, 999 of it is left, onto 500; parts 2 .. 5 are lost
        due("hour lost of the full road", x.run(1, 2), 4 * 999);
        x.live();
        due("hour 999 at most before a gate", x.told(2, 0), 999);
        ThrownBack heap = new ThrownBack();
        heap.owner(0, 0);
        heap.put(0, 0, 600);
        heap.put(0, 1, 600);
        heap.owner(20, 0);
        heap.put(1, 0, 999);
        heap.live();
        due("hour 999 at most on the heap", heap.told(0, 1), 999);
        due("hour 999 at most thrown back", heap.taken(12, 6), 999);
        // blocked behind the shovelling, above the limit
        ThrownBack limit = new ThrownBack();
        limit.owner(0, 5);
        limit.put(0, 0, 10);
        due("hour not above the limit", limit.run(1, 30), 0);
        limit.put(0, 0, 11);
        due("hour above the limit", limit.run(1, 30), 1);
        due("hour above till one shovels", limit.run(9, 30), 5);
        limit.set(1, 11);
        due("hour a higher limit", limit.run(9, 30), 0);
    }

    private static void run() {
        ThrownBack x = oneGate(0, 1, 1);
        due("15 minutes", x.run(2, 0), 7);
        due("15 lost", x.run(2, 2), 20);
        due("15 highest heap", x.run(2, 3), 4);
        due("15 busiest", x.run(2, 4), 0);
        due("15 minutes of 0", x.run(2, 10), 7);
        due("15 blocked of 0", x.run(2, 30), 0);
        due("15 wall of 0", x.run(2, 50), 0);
        due("15 two days", x.run(26, 0), 7 + 3 + 48);
        due("15 changes nothing", x.count(2), 0);
        due("15 no hours", x.run(0, 0), 0);
        due("15 n -1", x.run(-1, 0), BAD);
        due("15 n 49", x.run(49, 0), BAD);
        due("15 n 48", x.run(48, 0), 58);
        due("15 n ahead of what", x.run(49, 5), BAD);
        int[] wrong = {-1, 5, 9, 11, 21, 22, 29, 31, 42, 49, 51, 62, 69, 70, 90, 110, LEAST, MOST};
        for (int what : wrong) {
            due("15 what " + what, x.run(1, what), -7);
        }
        ThrownBack none = new ThrownBack();
        due("15 no owner", none.run(1, 10), -7);
        due("15 no owner's heap", none.run(1, 3), -1);
        due("15 no owner's minutes", none.run(1, 4), -1);
        ThrownBack y = new ThrownBack();
        for (int g = 0; g < 12; g++) {
            y.owner(0, 3);
            y.put(g, 0, g == 5 || g == 7 ? 20 : 11);
            y.put(g, 1, g);
        }
        due("15 like ones", y.run(4, 4), 5);
        due("15 the last's minutes", y.run(4, 21), 14);
        due("15 the last's blocked", y.run(4, 41), 3);
        due("15 the last's wall", y.run(3, 61), 11);
        due("15 blocked together", y.run(4, 1), 36);
        due("15 highest", y.run(4, 3), 27);
        due("15 highest at last", y.run(3, 3), 11);
        due("15 the first's wall", y.run(3, 50), 11);
        due("15 the first's blocked", y.run(3, 30), 3);
        // minutes of all: 10 times 14 and 2 times 23
        due("15 minutes of all", y.run(4, 0), 186);
        y.put(11, 3, 4);
        due("15 by one's own hour", y.run(4, 0), 172);
        // in thought THE HOUR goes on: at HOUR 999 the second hour is 1000
        ThrownBack end = hourOf(999);
        end.owner(0, 16);
        end.put(0, 0, 5);
        due("15 behind HOUR 999", end.run(2, 0), 8);
    }

    private static void when() {
        // the wall of 11 stands from HOUR 0 on; whoever shovels at HOUR h has h BLOCKED hours
        ThrownBack x = withLaw(new ThrownBack(), "falls 0;takes 30-hour;lifts 0;");
        x.owner(0, 9);
        x.put(0, 0, 11);
        due("16 blocked, hour", x.when(0, 24, 10), 0);
        due("16 blocked, how many", x.when(0, 24, 11), 0);
        due("16 minutes, hour", x.when(0, 24, 0), 23);
        due("16 minutes, how many", x.when(0, 24, 1), 7);
        due("16 minutes, none by coming late", x.when(0, 10, 0), 10);
        due("16 none", x.when(0, 10, 1), 0);
        due("16 like ones, the least", x.when(0, 0, 0), 0);
        due("16 changes nothing", x.told(0, 3), 9);
        x.set(0, 20);
        due("16 from HOUR 20", x.when(0, 24, 10), 20);
        int[] goals = {-1, 2, 9, 12, 20, 21, LEAST, MOST};
        for (int goal : goals) {
            due("16 goal " + goal, x.when(0, 1, goal), -7);
        }
        due("16 n 49", x.when(0, 49, 0), -7);
        due("16 n -1", x.when(0, -1, 0), -7);
        due("16 owner 1", x.when(1, 49, 0), -5);
        due("16 owner -1", x.when(-1, 1, 0), -5);
    }

    private static void dig() {
        // 4 before the gate at HOUR 1: 3 and what the bay leaves of 4; none, if it leaves nothing
        ThrownBack x = oneGate(0, 1, 1);
        due("17 as now", x.dig(0, 2, 7), 0);
        due("17 one less", x.dig(0, 2, 6), 1);
        due("17 three less", x.dig(0, 2, 4), 3);
        due("17 none stands", x.dig(0, 2, 3), 4);
        due("17 nothing", x.dig(0, 2, 0), 4);
        x.put(0, 2, 50);
        due("17 whatever it is now", x.dig(0, 2, 6), 1);
        due("17 changes nothing", x.told(0, 2), 50);
        x.put(0, 0, 5);
        due("17 what stands there stays", x.dig(0, 2, 7), -1);
        due("17 what stands there", x.dig(0, 2, 8), 4);
        ThrownBack y = withLaw(oneGate(0, 0, 0), "falls 99;takes 1 + wall;lifts 0;");
        due("17 the largest", y.dig(0, 1, 0), 99);
        due("17 most 9999", y.dig(0, 48, 9999), 0);
        due("17 most 10000", y.dig(0, 1, 10000), -7);
        due("17 most -1", y.dig(0, 1, -1), -7);
        due("17 n 49", y.dig(0, 49, 1), -7);
        due("17 n -1", y.dig(0, -1, 1), -7);
        due("17 owner 1", y.dig(1, 49, 1), -5);
        due("17 owner -1", y.dig(-1, 1, 1), -5);
    }

    private static void blade() {
        // lifted at GATE 2, its 2 are lost behind it: no minutes for it (5 less)
        ThrownBack x = new ThrownBack();
        x.owner(0, 0);
        x.owner(0, 0);
        x.owner(0, 0);
        x.pass(0, 0);
        due("18 now", x.run(1, 0), 10);
        // lifted at 0: 1 lost, 1 carried to 2: 6 in all; lifted at 2: 5
        due("18 gate", x.blade(1, 0), 2);
        due("18 how many", x.blade(1, 1), 5);
        due("18 changes nothing", x.told(2, 4), 0);
        x.put(2, 4, 1);
        due("18 then the other", x.blade(1, 0), 0);
        due("18 then none", x.blade(1, 1), 0);
        x.put(0, 4, 1);
        due("18 no fewer", x.blade(1, 0), -1);
        due("18 as now", x.blade(1, 1), 0);
        ThrownBack like = new ThrownBack();
        for (int g = 0; g < 5; g++) {
            like.owner(0, 0);
        }
        withLaw(like, "falls 2;takes 5;lifts 99;");
        like.pass(0, 0);
        due("18 like ones", like.blade(1, 0), 0);
        due("18 like ones' minutes", like.blade(1, 1), 10);
        due("18 no owners", new ThrownBack().blade(1, 0), -1);
        due("18 no owners' minutes", new ThrownBack().blade(1, 1), 0);
        due("18 n 49", x.blade(49, 0), BAD);
        due("18 n -1", x.blade(-1, 0), BAD);
        due("18 what 2", x.blade(1, 2), BAD);
        due("18 what -1", x.blade(1, -1), BAD);
    }

    private static void sides() {
        // PASS 0 at HOUR 0, PASS 1 at HOUR 1; OWNER 0 to the left never comes in these hours, OWNER 1 always
        ThrownBack x = new ThrownBack();
        x.owner(0, 20);
        x.owner(0, 1);
        x.pass(0, 0);
        x.pass(1, 0);
        x.set(1, 1);
        // both to the right: GATE 1 in HOUR 0 alone; else 2 at least
        due("19 fewest blocked", x.sides(2, 0), 3);
        due("19 how many", x.sides(2, 1), 1);
        // most minutes: to the left none at all
        due("19 fewest minutes", x.sides(2, 10), 0);
        due("19 minutes", x.sides(2, 11), 0);
        due("19 changes nothing", x.comes(0), 0);
        x.put(0, 0, 50);
        x.put(0, 3, 0);
        // OWNER 0 shovels 50 at HOUR 0, and 2 more if PASS 0 comes to the left
        due("19 minutes, to the right", x.sides(2, 10), 1);
        due("19 minutes, so many", x.sides(2, 11), 53);
        ThrownBack none = new ThrownBack();
        none.pass(0, 1);
        none.pass(0, 1);
        due("19 no owners", none.sides(5, 10), 0);
        due("19 no owners' minutes", none.sides(5, 11), 0);
        due("19 no owners' blocked", none.sides(5, 1), 0);
        // only the bits of the left spare GATE 1
        ThrownBack left = new ThrownBack();
        left.owner(0, 20);
        left.owner(0, 20);
        left.put(0, 2, 99);
        left.set(1, 0);
        for (int k = 0; k < 6; k++) {
            left.pass(k, 1);
        }
        due("19 to the left", left.sides(6, 0), 0);
        left.put(0, 2, 0);
        left.put(1, 2, 99);
        due("19 all to the right", left.sides(6, 0), 63);
        int[] goals = {-1, 2, 9, 12, 20, LEAST, MOST};
        for (int goal : goals) {
            due("19 goal " + goal, x.sides(1, goal), BAD);
        }
        due("19 n 49", x.sides(49, 0), BAD);
        due("19 n -1", x.sides(-1, 0), BAD);
    }

    private static void gains() {
        // GREY 2, wall 10: 26 minutes; CARELESS: 13, and 12 of it lie in the road, pushed before OWNER 1's gate
        ThrownBack x = new ThrownBack();
        x.owner(52, 0);
        x.owner(0, 1);
        x.put(0, 0, 10);
        x.pass(1, 1);
        due("20 now", x.run(2, 0), 26 + 7);
        due("20 less", x.gains(0, 2, 0), 13);
        due("20 others", x.gains(0, 2, 1), 10);
        due("20 of the other less", x.gains(1, 2, 0), 0);
        due("20 changes nothing", x.told(0, 5), 5);
        due("20 no hours", x.gains(0, 0, 0), 0);
        due("20 owner 2", x.gains(2, 49, 0), -1000005);
        due("20 owner -1", x.gains(-1, 1, 0), -1000005);
        due("20 n 49", x.gains(0, 49, 0), -1000007);
        due("20 n -1", x.gains(0, -1, 0), -1000007);
        due("20 what 2", x.gains(0, 1, 2), -1000007);
        due("20 what -1", x.gains(0, 1, -1), -1000007);
        // a STRONG one has more so
        ThrownBack y = new ThrownBack();
        y.owner(10, 0);
        y.put(0, 0, 11);
        due("20 more", y.gains(0, 1, 0), 7 - 14);
    }

    private static void helps() {
        // STRONG 0 with wall 7: 5 minutes. Were 1 STRONG: 13/2; were 2: 9/2 of 23 and 19
        ThrownBack x = new ThrownBack();
        x.owner(10, 0);
        x.owner(0, 0);
        x.owner(5, 0);
        x.put(0, 0, 7);
        x.put(1, 0, 20);
        x.put(2, 0, 16);
        due("21 whom", x.helps(0, 1, 0), 2);
        due("21 how many", x.helps(0, 1, 1), 5 + 9);
        due("21 of another kind", x.helps(1, 1, 0), 0);
        due("21 of another kind, how many", x.helps(1, 1, 1), 23 + 10);
        due("21 changes nothing", x.told(2, 5), 0);
        due("21 like ones", x.helps(1, 0, 0), 0);
        due("21 like ones, another", x.helps(0, 0, 0), 1);
        // with one's MORE, too
        ThrownBack more = new ThrownBack();
        more.owner(33, 0);
        more.owner(0, 0);
        more.put(1, 0, 17);
        due("21 with one's MORE", more.helps(0, 1, 1), 7);
        ThrownBack alone = oneGate(0, 0, 0);
        due("21 none", alone.helps(0, 5, 0), -1);
        due("21 none, how many", alone.helps(0, 5, 1), -1);
        due("21 refused ahead of none", alone.helps(0, 49, 1), -7);
        due("21 owner 3", x.helps(3, 49, 0), -5);
        due("21 owner -1", x.helps(-1, 1, 0), -5);
        due("21 n -1", x.helps(0, -1, 0), -7);
        due("21 n 49", x.helps(0, 49, 0), -7);
        due("21 what 2", x.helps(0, 1, 2), -7);
        due("21 what -1", x.helps(0, 1, -1), -7);
    }

    /** Three OWNERS who shovel at HOURS 3, 4, 5, with walls of 5, 6, 7. */
    private static ThrownBack threeWalls() {
        ThrownBack x = new ThrownBack();
        for (int g = 0; g < 3; g++) {
            x.owner(10 * g, 3 + g);
            x.put(g, 0, 5 + g);
        }
        return x;
    }

    private static void toldRefusals(String call, ThrownBack x, java.util.function.IntUnaryOperator asked) {
        due(call + " sheet 4", asked.applyAsInt(4), BAD);
        due(call + " sheet -1", asked.applyAsInt(-1), BAD);
        due(call + " missing", asked.applyAsInt(3), -11);
        x.sheet(2, 2, x.count(0) + 1);
        due(call + " too many", asked.applyAsInt(2), BAD);
        x.sheet(2, 0, x.count(0) - 1);
        due(call + " too few", asked.applyAsInt(2), BAD);
    }

    private static void judge() {
        ThrownBack x = threeWalls();
        Check.tell(x, 0, 5, 6, 7);
        due("22 as told", x.judge(0, 0), -1);
        due("22 as told in 3", x.judge(0, 3), -1);
        due("22 first in 4", x.judge(0, 4), 0);
        Check.tell(x, 0, 0, 6, 7);
        due("22 as told in 4", x.judge(0, 4), -1);
        due("22 second in 5", x.judge(0, 5), 1);
        Check.tell(x, 0, 5, 6, 8);
        due("22 third", x.judge(0, 0), 2);
        x.put(0, 0, 200);
        x.sheet(1, 0, 3);
        x.cell(1, 0, 200);
        x.cell(1, 1, 6);
        x.cell(1, 2, 7);
        due("22 200 is none of a byte's", x.judge(1, 0), 0);
        due("22 n 49", x.judge(0, 49), -7);
        due("22 n -1", x.judge(0, -1), -7);
        toldRefusals("22", x, s -> x.judge(s, 49));
        ThrownBack none = new ThrownBack();
        none.sheet(0, 1, 0);
        due("22 no owners", none.judge(0, 48), -1);
        due("22 changes nothing", x.count(2), 0);
    }

    private static void kinds() {
        // wall 5 of OWNER 0 (AT 3): STRONG and YOUNG come at 9, too; at HOUR 9 only they
        ThrownBack x = new ThrownBack();
        x.owner(0, 3);
        x.put(0, 0, 5);
        Check.tell(x, 0, 0);
        due("23 all kinds, all over", x.kinds(0, 4, 0, 0), 63);
        due("23 none yet", x.kinds(0, 3, 0, 0), 0);
        x.set(0, 4);
        due("23 strong ones", x.kinds(0, 6, 0, 0), 2 + 8);
        due("23 hours so far", x.kinds(0, 2, 0, 2), (1 << 4) + (1 << 5));
        due("23 hours over midnight", x.kinds(0, 21, 0, 2), 0xFFFFFF & ~(1 << 1 | 1 << 2 | 1 << 3));
        due("23 mores, none", x.kinds(0, 6, 0, 1), 0);
        x.put(0, 3, 5);
        due("23 mores, all", x.kinds(0, 6, 0, 1), 1023);
        // a GREY one comes at HOUR 24 .. 47 by an odd MORE
        ThrownBack grey = new ThrownBack();
        grey.owner(50, 3);
        grey.put(0, 0, 5);
        grey.set(0, 24);
        Check.tell(grey, 0, 0);
        due("23 odd ones", grey.kinds(0, 10, 0, 1), 2 + 8 + 32 + 128 + 512);
        due("23 changes nothing", grey.told(0, 6), 0);
        due("23 owner 1", x.kinds(0, 49, 1, 0), -5);
        due("23 owner -1", x.kinds(0, 1, -1, 0), -5);
        due("23 n 49", x.kinds(0, 49, 0, 0), -7);
        due("23 n -1", x.kinds(0, -1, 0, 0), -7);
        due("23 sort 3", x.kinds(0, 1, 0, 3), -7);
        due("23 sort -1", x.kinds(0, 1, 0, -1), -7);
        toldRefusals("23", x, s -> x.kinds(s, 49, 9, 9));
    }

    private static void hours() {
        ThrownBack x = threeWalls();
        Check.tell(x, 0, 0, 6, 7);
        due("24 one", x.hours(0, 0), 1);
        due("24 which", x.hours(0, 1), 4);
        Check.tell(x, 0, 0, 0, 0);
        due("24 from 6 to 48", x.hours(0, 0), 43);
        due("24 the least", x.hours(0, 1), 6);
        Check.tell(x, 0, 5, 6, 7);
        due("24 from 0", x.hours(0, 0), 4);
        due("24 least 0", x.hours(0, 1), 0);
        Check.tell(x, 0, 5, 6, 8);
        due("24 none", x.hours(0, 0), 0);
        due("24 none at least", x.hours(0, 1), -1);
        due("24 what 2", x.hours(0, 2), -7);
        due("24 what -1", x.hours(0, -1), -7);
        toldRefusals("24", x, s -> x.hours(s, 2));
        due("24 changes nothing", x.count(2), 0);
    }

    private static void laws() {
        ThrownBack x = oneGate(0, 23, 1);
        Check.text(x, "falls 3;takes 1;lifts 1;");
        Check.text(x, "falls 4*hour;takes 1;lifts 1;");
        Check.tell(x, 0, 4);
        // behind 2 HOURS: 4, 6, 4
        due("25 laws", x.laws(0, 2), 5);
        Check.tell(x, 0, 6);
        due("25 one law", x.laws(0, 2), 2);
        Check.tell(x, 0, 0);
        due("25 all laws", x.laws(0, 1), 7);
        Check.tell(x, 0, 9);
        due("25 no law", x.laws(0, 2), 0);
        due("25 changes nothing", x.count(5), 0);
        due("25 n 49", x.laws(0, 49), -7);
        due("25 n -1", x.laws(0, -1), -7);
        toldRefusals("25", x, s -> x.laws(s, 49));
    }

    private static void film() {
        ThrownBack x = threeWalls();
        x.put(2, 0, 999);
        due("26 three", x.film(1, 4), 3);
        due("26 as it will be", x.judge(1, 4), -1);
        due("26 not as it is", x.judge(1, 0), 0);
        due("26 the hours were in thought", x.count(2), 0);
        due("26 shorts", x.ownersBy(1, 1, 0, 0), 0);
        due("26 as many as owners", x.cell(1, 3, 0), -12);
        x.sheet(0, 0, 40);
        due("26 over another sort", x.film(0, 0), 3);
        due("26 walls now", x.hours(0, 1), 0);
        due("26 sheet 4", x.film(4, 0), BAD);
        due("26 sheet -1", x.film(-1, 0), BAD);
        due("26 n 49", x.film(2, 49), BAD);
        due("26 n -1", x.film(2, -1), BAD);
        due("26 still missing", x.cell(2, 0, 0), -11);
        due("26 no owners", new ThrownBack().film(0, 5), 0);
    }

    private static void drawn() {
        // SEED 0: 48271 first, so modulo 10 is 1: 1 and 2 lie on part 0 at HOUR 0
        ThrownBack x = oneGate(0, 0, 0);
        due("27 first lot", x.drawn(0, 1, 90), 3 + 3);
        // the lots behind: 182605794 (4), 1291394886 (6), 1914720637 (7), 2078669041 (1), 407355683 (3)
        due("27 all parts", x.drawn(0, 1, 92), 5 * 2 + 4 + 6 + 7 + 1 + 3);
        due("27 heap", x.drawn(0, 1, 93), 3);
        due("27 busiest", x.drawn(0, 1, 94), 0);
        due("27 blocked", x.drawn(0, 1, 91), 0);
        // SEED 1: 96542, modulo 100 is 42
        due("27 most 99", x.drawn(1, 1, 993), 44);
        due("27 most 0 is as run", x.drawn(7, 30, 2), x.run(30, 2));
        due("27 the second hour goes on with the seventh lot", secondHour(), 1);
        due("27 changes nothing", x.count(2), 0);
        due("27 seed 99999", x.drawn(99999, 0, 0), 0);
        due("27 seed 100000", x.drawn(100000, 0, 0), BAD);
        due("27 seed -1", x.drawn(-1, 0, 0), BAD);
        due("27 n 49", x.drawn(0, 49, 0), BAD);
        due("27 n -1", x.drawn(0, -1, 0), BAD);
        due("27 what 5", x.drawn(0, 1, 5), BAD);
        due("27 most 100", x.drawn(0, 1, 1000), BAD);
        due("27 most -1", x.drawn(0, 1, -10), BAD);
        due("27 what 995", x.drawn(0, 1, 995), BAD);
        due("27 none", new ThrownBack().drawn(0, 1, 4), -1);
    }

    /** The seventh LOT of SEED 0, modulo 10, is what comes more onto part 0 in the second hour: 1 if it is so. */
    private static int secondHour() {
        java.math.BigInteger lot = java.math.BigInteger.ONE;
        int[] digits = new int[8];
        for (int i = 1; i < 8; i++) {
            lot = lot.multiply(java.math.BigInteger.valueOf(48271)).mod(java.math.BigInteger.valueOf(2147483647));
            digits[i] = lot.mod(java.math.BigInteger.TEN).intValue();
        }
        ThrownBack x = oneGate(0, 1, 1);
        return x.drawn(0, 2, 93) == 4 + digits[1] + digits[7] ? 1 : 0;
    }

    private static void odds() {
        // never shovelled: at HOUR 0 the wall is 2 and a lot modulo 10; SEEDS 0 .. 3: 1, 2, 3, 4
        ThrownBack x = oneGate(0, 23, 0);
        x.set(1, 4);
        due("28 above", x.odds(0, 104, 0, 9, 0), 1);
        due("28 below", x.odds(0, 104, 0, 9, 1), 2);
        due("28 three of five", x.odds(0, 103, 0, 9, 0), 2);
        due("28 below three", x.odds(0, 103, 0, 9, 1), 3);
        due("28 from seed 2", x.odds(2, 102, 0, 9, 0), 0);
        due("28 none below", x.odds(2, 102, 0, 9, 1), 1);
        due("28 all", x.odds(0, 20, 0, 9, 0), 1);
        due("28 all below", x.odds(0, 20, 0, 9, 1), 1);
        due("28 the last seed", x.odds(99999, 4820, 0, 99, 1), 1);
        due("28 no hours, one seed", x.odds(0, 1, 0, 0, 0), 1);
        long no = ThrownBack.NO;
        due("28 no seeds", x.odds(0, 100, 0, 9, 0), no);
        due("28 21 seeds", x.odds(0, 121, 0, 9, 0), no);
        due("28 49 hours", x.odds(0, 4901, 0, 9, 0), no);
        due("28 below 0", x.odds(0, -99, 0, 9, 0), no);
        due("28 seed -1", x.odds(-1, 101, 0, 9, 0), no);
        due("28 seed 100000", x.odds(100000, 101, 0, 9, 0), no);
        due("28 owner 1", x.odds(0, 101, 1, 9, 0), no);
        due("28 owner -1", x.odds(0, 101, -1, 9, 0), no);
        due("28 most 100", x.odds(0, 101, 0, 100, 0), no);
        due("28 most -1", x.odds(0, 101, 0, -1, 0), no);
        due("28 part 2", x.odds(0, 101, 0, 9, 2), no);
        due("28 part -1", x.odds(0, 101, 0, 9, -1), no);
        due("28 changes nothing", x.count(2), 0);
    }

    private static void image() {
        ThrownBack x = new ThrownBack();
        due("30 none", x.back(), -3);
        x.owner(12, 4);
        x.pass(2, 1);
        x.set(0, 5);
        x.set(1, 6);
        for (int what = 0; what < 3; what++) {
            x.put(0, what, 7 + what);
        }
        x.live();
        due("29 image", x.image(), 1);
        Check.text(x, "falls 9;takes 9;lifts 9;");
        x.force(1);
        x.owner(0, 0);
        x.pass(3, 0);
        x.move(0, 9, 0);
        for (int what = 0; what < 5; what++) {
            x.put(0, what, 1);
            x.put(1, what, 1);
        }
        x.set(1, 99);
        x.sheet(0, 0, 5);
        x.feed(2, 1, 1, 1, 1, 1);
        x.live();
        due("30 back", x.back(), 1);
        int[] now = {1, 1, 6, 6, 2, 0, 2};
        for (int what = 0; what < now.length; what++) {
            due("30 count " + what, x.count(what), now[what]);
        }
        int[] first = {7, 8, 9, 4, 0, 1, 2, 2};
        for (int what = 0; what < first.length; what++) {
            due("30 told " + what, x.told(0, what), first[what]);
        }
        due("30 pass", x.comes(0), 21);
        due("30 no second pass", x.comes(1), -6);
        due("30 no second owner", x.told(1, 0), -5);
        due("30 part 5", x.taken(17, 6), 2);
        due("30 the sheet stays", x.cell(0, 4, 0), 1);
        due("30 a new one", x.owner(0, 3), 1);
        int[] fresh = {0, 0, 0, 3, 0, 0, 0};
        for (int what = 0; what < fresh.length; what++) {
            due("30 new one's " + what, x.told(1, what), fresh[what]);
        }
        x.put(0, 0, 500);
        due("30 back again", x.back(), 1);
        due("30 as it was again", x.told(0, 0), 7);
        x.put(0, 0, 500);
        due("29 a later image", x.image(), 1);
        x.put(0, 0, 1);
        x.back();
        due("30 of the later image", x.told(0, 0), 500);
        due("29 of none", new ThrownBack().image(), 0);
    }

    private static void sheet() {
        ThrownBack x = new ThrownBack();
        for (int sort = 0; sort < 3; sort++) {
            due("31 sort " + sort, x.sheet(sort, sort, 40), 1);
            due("31 last place", x.cell(sort, 39, 1), 1);
            due("31 no further", x.cell(sort, 40, 1), -12);
        }
        due("31 none", x.sheet(3, 2, 0), 1);
        due("31 none of it", x.cell(3, 0, 0), -12);
        due("31 missing", x.sheet(3, -1, 41), 1);
        due("31 is missing", x.cell(3, 0, 0), -11);
        due("31 missing, below 0", x.sheet(3, -1, LEAST), 1);
        due("31 sort 3", x.sheet(0, 3, 1), BAD);
        due("31 sort -2", x.sheet(0, -2, 1), BAD);
        due("31 41", x.sheet(0, 0, 41), BAD);
        due("31 -1", x.sheet(0, 0, -1), -14);
        due("31 sheet 4", x.sheet(4, 0, -1), BAD);
        due("31 sheet -1", x.sheet(-1, -1, 0), BAD);
        // a row again is all 0: OWNER 0 at HOUR 0
        x.sheet(0, 2, 2);
        x.cell(0, 0, 5);
        x.cell(0, 1, 5);
        x.sheet(0, 2, 2);
        x.ownersBy(0, 2, 0, 1);
        due("31 all 0", x.told(0, 3), 0);
        due("31 the first, too", x.told(0, 6), 0);
    }

    /** A number as a SHEET has it: as the MORE and ONE'S HOUR of who comes by it, or -1. */
    private static int moreBy(ThrownBack x, int s, int sort, int place) {
        int g = x.count(0);
        int came = x.ownersBy(s, sort, place, 1);
        return came == 1 ? x.told(g, 5) * 10 + x.told(g, 6) : -1;
    }

    private static void cell() {
        ThrownBack x = new ThrownBack();
        due("32 missing", x.cell(0, 0, 0), -11);
        due("32 sheet 4", x.cell(4, 0, 0), BAD);
        due("32 sheet -1", x.cell(-1, 0, 0), BAD);
        int[] wide = {256 + 47, 65536 + 256 + 47, 47};
        int[] kept = {47, -1, 47};
        for (int sort = 0; sort < 3; sort++) {
            x.sheet(0, sort, 2);
            due("32 place -1", x.cell(0, -1, 1), -12);
            due("32 place 2", x.cell(0, 2, 1), -12);
            due("32 place most", x.cell(0, MOST, 1), -12);
            due("32 done", x.cell(0, 0, wide[sort]), 1);
            due("32 by sort " + sort, moreBy(x, 0, sort, 0), kept[sort]);
        }
        x.sheet(0, 1, 2);
        x.cell(0, 0, 65536 + 33);
        due("32 16 bits", moreBy(x, 0, 1, 0), 33);
        x.sheet(0, 2, 2);
        x.cell(0, 0, 65536 + 33);
        due("32 all of an int", moreBy(x, 0, 2, 0), -1);
        x.cell(0, 0, -1);
        due("32 an int below 0", moreBy(x, 0, 2, 0), -1);
    }

    private static void copy() {
        ThrownBack x = new ThrownBack();
        Check.tell(x, 0, 10, 1, 20, 2, 30, 3);
        x.sheet(1, 2, 4);
        due("33 two", x.copy(0, 2, 1, 1, 2), 2);
        // 0 20 2 0
        due("33 came", moreBy(x, 1, 2, 1), 20);
        due("33 hour came", x.told(0, 3), 2);
        due("33 not behind", moreBy(x, 1, 2, 2), 2);
        due("33 own, forward", x.copy(0, 0, 0, 2, 4), 4);
        // 10 1 10 1 20 2
        due("33 as they were", moreBy(x, 0, 2, 4), 20);
        due("33 as they were ahead", moreBy(x, 0, 2, 2), 10);
        due("33 own, backward", x.copy(0, 2, 0, 1, 4), 4);
        // 10 10 1 20 2 2
        due("33 backward", moreBy(x, 0, 2, 3), 20);
        due("33 backward first", moreBy(x, 0, 2, 0), 10);
        due("33 none", x.copy(0, 6, 1, 4, 0), 0);
        due("33 none, outside", x.copy(0, 7, 1, 0, 0), -12);
        due("33 n -1", x.copy(0, 0, 1, 0, -1), -12);
        due("33 n least", x.copy(0, 0, 1, 0, LEAST), -12);
        due("33 n most", x.copy(0, 1, 1, 1, MOST), -12);
        due("33 i -1", x.copy(0, -1, 1, 0, 1), -12);
        due("33 i most", x.copy(0, MOST, 1, 0, 1), -12);
        due("33 j -1", x.copy(0, 0, 1, -1, 1), -12);
        due("33 j least", x.copy(0, 0, 1, LEAST, 1), -12);
        due("33 too many from", x.copy(0, 4, 1, 0, 3), -12);
        due("33 too many to", x.copy(0, 0, 1, 2, 3), -12);
        due("33 sheet 4", x.copy(4, 0, 0, 0, 1), BAD);
        due("33 sheet -1", x.copy(0, 0, -1, 0, 1), BAD);
        due("33 missing to", x.copy(0, 0, 2, 0, 1), -11);
        due("33 missing from", x.copy(2, 0, 0, 0, 1), -11);
        x.sheet(2, 1, 4);
        due("33 unlike sorts", x.copy(0, 0, 2, 0, 1), -13);
        due("33 unlike sorts, outside", x.copy(0, 9, 2, 9, -1), -13);
    }

    private static void ownersBy() {
        ThrownBack x = new ThrownBack();
        x.sheet(0, 1, 40);
        for (int i = 0; i < 40; i += 2) {
            x.cell(0, i, i);
            x.cell(0, i + 1, i == 4 ? 24 : 5);
        }
        due("34 three, one left out", x.ownersBy(0, 1, 0, 3), 2);
        due("34 first", x.told(0, 6), 0);
        due("34 second", x.told(1, 6), 2);
        due("34 from a place on", x.ownersBy(0, 1, 12, 1), 1);
        due("34 kind", x.told(2, 5), 1);
        due("34 more", x.told(2, 6), 2);
        due("34 hour", x.told(2, 3), 5);
        due("34 none", x.ownersBy(0, 1, 99, 0), 0);
        due("34 outside at last", x.ownersBy(0, 1, 36, 3), -12);
        due("34 what stood ahead came", x.count(0), 5);
        due("34 half outside", x.ownersBy(0, 1, 39, 1), -12);
        due("34 place -1", x.ownersBy(0, 1, -1, 1), -12);
        due("34 place most", x.ownersBy(0, 1, MOST, 1), -12);
        due("34 place least", x.ownersBy(0, 1, LEAST, 12), -12);
        due("34 all", x.ownersBy(0, 1, 16, 12), 7);
        due("34 twelve", x.count(0), 12);
        due("34 full, and outside", x.ownersBy(0, 1, 38, 2), -12);
        due("34 full", x.ownersBy(0, 1, 0, 2), 0);
        due("34 n 13", x.ownersBy(0, 1, 0, 13), BAD);
        due("34 n -1", x.ownersBy(0, 1, 0, -1), BAD);
        due("34 sort 3", x.ownersBy(0, 3, 0, 1), BAD);
        due("34 sort -1", x.ownersBy(0, -1, 0, 1), BAD);
        due("34 sheet 4", x.ownersBy(4, 1, 0, 1), BAD);
        due("34 sheet -1", x.ownersBy(-1, 1, 0, 1), BAD);
        due("34 missing", x.ownersBy(1, 1, 99, 1), -11);
        due("34 another sort", x.ownersBy(0, 2, 99, 1), -13);
    }

    private static void taken() {
        ThrownBack x = new ThrownBack();
        // of each KIND (a row), taken for each KIND
        String[] isOf = {"100000", "110000", "101000", "110100", "101010", "100001"};
        for (int kind = 0; kind < 6; kind++) {
            x.owner(10 * kind, 0);
        }
        x.live();
        for (int g = 0; g < 6; g++) {
            for (int kind = 0; kind < 6; kind++) {
                due("35 " + g + " as " + kind, x.taken(g, kind), isOf[g].charAt(kind) == '1' ? g : -13);
            }
            due("35 an owner as a part", x.taken(g, 6), -13);
            due("35 part " + g, x.taken(12 + g, 6), 2);
            due("35 a part as an owner", x.taken(12 + g, g), -13);
        }
        due("35 no owner", x.taken(6, 0), -11);
        due("35 no owner as a part", x.taken(11, 6), -11);
        due("35 place 18", x.taken(18, 6), -12);
        due("35 place -1", x.taken(-1, 0), -12);
        due("35 kind 7", x.taken(99, 7), BAD);
        due("35 kind -1", x.taken(0, -1), BAD);
        due("35 0, too", new ThrownBack().taken(12, 6), 0);
    }
}
