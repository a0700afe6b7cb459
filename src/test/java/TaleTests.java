/** What the tests of refused calls rest upon: a Tale tells each change. */
public final class TaleTests {
    private TaleTests() { }

    public static void main(String[] args) {
        law();
        owners();
        rest();
        Check.end("TaleTests");
    }

    private static void law() {
        Tale.changed("set(0, ..)", x -> x.set(0, 34));
        Tale.changed("set(1, ..)", x -> x.set(1, 10));
        Tale.changed("feed()", x -> x.feed(1, 32, 0, 0, 0, 0));
        Tale.changed("text()", ThrownBack::text);
        Tale.changed("force()", x -> x.force(0));
        Tale.changed("a byte of THE TAPE", x -> {
            x.text();
            return x.feed(4, 'f', 'a', 'l', 'k', 0);
        });
        Tale.changed("a TEXT", x -> Check.text(x, "s 1;takes 1;lifts 1;"));
    }

    private static void owners() {
        Tale.changed("owner()", x -> x.owner(0, 0));
        for (int g = 0; g < 5; g++) {
            for (int what = 0; what < 5; what++) {
                int owner = g;
                int put = what;
                Tale.changed("put(" + g + ", " + what + ", ..)", x -> {
                    int was = x.told(owner, put);
                    return x.put(owner, put, was == 0 ? 1 : was - 1);
                });
            }
        }
        Tale.changed("pass()", x -> x.pass(0, 0));
        for (int k = 0; k < 3; k++) {
            int pass = k;
            Tale.changed("move(" + k + ", ..), the hour", x -> x.move(pass, x.comes(pass) / 10 - 1, x.comes(pass) % 10));
            Tale.changed("move(" + k + ", ..), the SIDE", x -> x.move(pass, x.comes(pass) / 10, 1 - x.comes(pass) % 10));
        }
        Tale.changed("live()", ThrownBack::live);
    }

    private static void rest() {
        Tale.changed("image()", ThrownBack::image);
        Tale.changed("back()", ThrownBack::back);
        Tale.changed("film()", x -> x.film(0, 0));
        int[] sizes = {6, 4, 5};
        for (int s = 0; s < 4; s++) {
            int sheet = s;
            if (s < 3) {
                Tale.changed("sheet(" + s + ", -1, 0)", x -> x.sheet(sheet, -1, 0));
                Tale.changed("sheet(" + s + ", ..) again", x -> x.sheet(sheet, sheet, sizes[sheet]));
                for (int i = 0; i < sizes[s]; i++) {
                    int place = i;
                    Tale.changed("cell(" + s + ", " + i + ", 1)", x -> x.cell(sheet, place, 1));
                }
                Tale.changed("copy() of SHEET " + s, x -> x.copy(sheet, 0, sheet, 1, 2));
                Tale.changed("ownersBy(" + s + ", ..)", x -> x.ownersBy(sheet, sheet, 0, 1));
            } else {
                Tale.changed("sheet(3, 0, 0)", x -> x.sheet(3, 0, 0));
                Tale.changed("sheet(3, 2, 40)", x -> x.sheet(3, 2, 40));
            }
        }
    }
}
