import java.util.ArrayList;
import java.util.List;
import java.util.function.Supplier;

/** All that an object can tell, so that what was refused can be seen to have changed nothing; with full() some 420 calls of 512. */
final class Tale {
    /** A call, or some. */
    interface Call {
        long on(ThrownBack x);
    }

    /** A call that names an OWNER, or a SHEET. */
    interface OfGate {
        long of(ThrownBack x, int g);
    }

    private final ThrownBack x;
    private final List<String> rows = new ArrayList<>();

    private Tale(ThrownBack x) {
        this.x = x;
        state();
        texts();
        thoughts();
        tape();
        image();
        sheets();
    }

    /** The call answers so, of an object with something of all, and changes nothing. */
    static void refused(String name, long want, Call call) {
        refused(Tale::some, name, want, call);
    }

    static void refused(Supplier<ThrownBack> made, String name, long want, Call call) {
        ThrownBack asked = made.get();
        Check.due(name, call.on(asked), want);
        same(name, asked, made.get());
    }

    /** The call is taken, but changes nothing. */
    static void onlyAsked(String name, Call call) {
        ThrownBack asked = some();
        Check.holds(name + " is no refusal", call.on(asked) >= -1);
        same(name, asked, some());
    }

    static void same(String name, ThrownBack one, ThrownBack other) {
        List<String> told = new Tale(one).rows;
        List<String> due = new Tale(other).rows;
        for (int i = 0; i < due.size(); i++) {
            if (!told.get(i).equals(due.get(i))) {
                Check.holds(name + " changes nothing, but " + told.get(i) + " was " + due.get(i), false);
                return;
            }
        }
        Check.holds(name + " changes nothing", told.size() == due.size());
    }

    /** The tale is not blind: it tells what the call changed. */
    static void changed(String name, Call call) {
        ThrownBack asked = some();
        call.on(asked);
        Check.holds(name + " is told", !new Tale(asked).rows.equals(new Tale(some()).rows));
    }

    /** Five OWNERS, three PASSES, three TEXTS, four bytes, an IMAGE of other things, three SHEETS. */
    static ThrownBack some() {
        ThrownBack x = new ThrownBack();
        x.set(0, 30);
        x.set(1, 7);
        beforeTheImage(x);
        Check.text(x, "falls 3;takes 2+wall;lifts 2;");
        x.force(1);
        x.live();
        x.image();
        x.owner(35, 9);
        x.owner(41, 7);
        x.put(3, 0, 25);
        x.put(4, 1, 60);
        x.put(0, 0, 77);
        x.put(1, 4, 0);
        x.put(2, 3, 9);
        x.move(0, 8, 1);
        x.pass(20, 0);
        x.set(1, 9);
        Check.text(x, "falls 4+hour;takes heap-more;lifts gate;");
        x.force(2);
        x.live();
        x.live();
        rows(x);
        x.feed(4, 'f', 'a', 'l', 'l', 's');
        return x;
    }

    /** Twelve OWNERS, six PASSES, six TEXTS, a full TAPE, an IMAGE, three SHEETS. */
    static ThrownBack full() {
        ThrownBack x = new ThrownBack();
        beforeTheImage(x);
        x.image();
        for (int g = 3; g < 12; g++) {
            x.owner(5 * g, 2 * g);
            x.put(g, 0, 90 * g);
        }
        for (int k = 2; k < 6; k++) {
            x.pass(4 * k, k % 2);
        }
        for (int t = 1; t < 6; t++) {
            Check.text(x, "falls " + t + ";takes hour;lifts 1;");
        }
        x.force(5);
        x.set(0, 99);
        x.set(1, 999);
        rows(x);
        Check.feedAll(x, "falls 1 + more ; takes 2 ; lifts 3 ; " + " ".repeat(123));
        return x;
    }

    private static void beforeTheImage(ThrownBack x) {
        x.owner(3, 7);
        x.owner(14, 6);
        x.owner(20, 8);
        for (int g = 0; g < 3; g++) {
            x.put(g, 0, 40 + g);
            x.put(g, 1, 100 + g);
            x.put(g, 2, 3 + g);
        }
        x.put(1, 4, 1);
        x.pass(6, 0);
        x.pass(7, 1);
    }

    /** SHEETS 0 .. 2 of sorts 0 .. 2, of 6, 4 and 5 numbers, which two by two can be OWNERS; no SHEET 3. */
    private static void rows(ThrownBack x) {
        int[] sizes = {6, 4, 5};
        for (int s = 0; s < 3; s++) {
            x.sheet(s, s, sizes[s]);
            for (int i = 0; i < sizes[s]; i++) {
                x.cell(s, i, 3 + 4 * s + 2 * i);
            }
        }
    }

    private void row(String call, long answer) {
        rows.add(call + " = " + answer);
    }

    private void state() {
        for (int what = 0; what < 7; what++) {
            row("count(" + what + ")", x.count(what));
        }
        int owners = x.count(0);
        for (int g = 0; g <= owners && g < 12; g++) {
            for (int what = 0; what < 7; what++) {
                row("told(" + g + ", " + what + ")", x.told(g, what));
            }
        }
        int passes = x.count(1);
        for (int k = 0; k <= passes && k < 6; k++) {
            row("comes(" + k + ")", x.comes(k));
        }
        for (int p = 0; p < 6; p++) {
            row("taken(" + (12 + p) + ", 6)", x.taken(12 + p, 6));
        }
    }

    private void texts() {
        int law = x.count(5);
        int texts = x.count(4);
        for (int t = 0; t <= texts && t < 6; t++) {
            row("force(" + t + ")", x.force(t));
            for (int part = 0; part < 3; part++) {
                row("asks(" + part + ", 0, 5) by " + t, x.asks(part, 0, 5));
            }
        }
        x.force(law);
    }

    private void thoughts() {
        for (int what = 0; what < 5; what++) {
            row("run(48, " + what + ")", x.run(48, what));
            row("drawn(7, 48, " + (90 + what) + ")", x.drawn(7, 48, 90 + what));
        }
    }

    /** What stands on it is told by what it makes of the rest of a TEXT. */
    private void tape() {
        row("feeds behind the tape", Check.feedAll(x, "s 8;takes 7;lifts 6;"));
        row("text() of the tape", x.text());
        row("count(4) with the tape's", x.count(4));
        row("count(6) without the tape", x.count(6));
    }

    private void image() {
        row("back()", x.back());
        state();
    }

    /** Behind back() there is room for those who come by the SHEETS, and so tell what stands there. */
    private void sheets() {
        for (int s = 0; s < 4; s++) {
            for (int sort = 0; sort < 3; sort++) {
                row("ownersBy(" + s + ", " + sort + ", 0, 0)", x.ownersBy(s, sort, 0, 0));
                row("ownersBy(" + s + ", " + sort + ", 0, 2)", x.ownersBy(s, sort, 0, 2));
                row("ownersBy(" + s + ", " + sort + ", 3, 1)", x.ownersBy(s, sort, 3, 1));
                row("ownersBy(" + s + ", " + sort + ", 4, 1)", x.ownersBy(s, sort, 4, 1));
            }
            for (int i = 3; i < 8; i++) {
                row("cell(" + s + ", " + i + ", 0)", x.cell(s, i, 0));
            }
        }
        for (int g = 3; g < 12; g++) {
            for (int what : new int[] {3, 5, 6}) {
                row("told(" + g + ", " + what + ") by a sheet", x.told(g, what));
            }
        }
    }
}
