/** Counts answers that are not as due, for the tests beside it. */
final class Check {
    private static int wrong = 0;
    private static int asked = 0;
    private static String about = "";

    private Check() { }

    static void due(String call, long got, long want) {
        asked++;
        if (got != want) {
            wrong++;
            System.out.println(about + call + " answered " + got + ", due is " + want);
        }
    }

    /** What stands ahead of each call that is not as due from here on. */
    static void about(String words) {
        about = words;
    }

    static int asked() {
        return asked;
    }

    static void holds(String what, boolean isSo) {
        due(what, isSo ? 1 : 0, 1);
    }

    static void end(String name) {
        System.out.println(name + ": " + asked + " checks, " + wrong + " not as due");
        if (wrong != 0 || asked == 0) {
            System.exit(1);
        }
    }

    /** Feeds a text's bytes by fives: what the last feed() answered (0: nothing to feed). */
    static int feedAll(ThrownBack x, String text) {
        int last = 0;
        for (int i = 0; i < text.length(); i += 5) {
            int[] five = new int[5];
            int n = Math.min(5, text.length() - i);
            for (int j = 0; j < n; j++) {
                five[j] = text.charAt(i + j);
            }
            last = x.feed(n, five[0], five[1], five[2], five[3], five[4]);
        }
        return last;
    }

    static int text(ThrownBack x, String text) {
        feedAll(x, text);
        return x.text();
    }

    /** A sheet of ints holding these. */
    static void tell(ThrownBack x, int s, int... numbers) {
        x.sheet(s, 2, numbers.length);
        for (int i = 0; i < numbers.length; i++) {
            x.cell(s, i, numbers[i]);
        }
    }
}
