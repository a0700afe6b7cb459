import java.io.IOException;
import java.io.UncheckedIOException;
import java.nio.file.Files;
import java.nio.file.Path;

/** A sentence of ../shared/DOC.md that names a boundary, with a test of its own: what it reports bears the promise and the words. */
final class Sentence {
    static final int LEAST = Integer.MIN_VALUE;
    static final int MOST = Integer.MAX_VALUE;
    private static final String DOC = document();
    private static final boolean[] TESTED = new boolean[36];

    private Sentence() { }

    private static String document() {
        try {
            return Files.readString(Path.of("../shared/DOC.md"));
        } catch (IOException e) {
            throw new UncheckedIOException(e);
        }
    }

    /** The words stand in the promise, or, if it uses a term, in the terms. */
    static void of(int promise, String words, Runnable test) {
        boolean isSaid = between("## Promise " + promise + ":", "\n## ").contains(words)
                || between("## Terms", "\n## ").contains(words);
        Check.holds("the document says of promise " + promise + ": " + words, isSaid);
        int before = Check.asked();
        Check.about("promise " + promise + ", \"" + words + "\": ");
        test.run();
        Check.about("");
        Check.holds("promise " + promise + ", \"" + words + "\" is tested", Check.asked() > before);
        TESTED[promise] = true;
    }

    private static String between(String from, String to) {
        int start = DOC.indexOf(from);
        int end = start < 0 ? -1 : DOC.indexOf(to, start + from.length());
        return end < 0 ? "" : DOC.substring(start, end);
    }

    /** Each of the promises has had a sentence. */
    static void end(String name, int first, int last) {
        for (int promise = first; promise <= last; promise++) {
            Check.holds("promise " + promise + " has a sentence", TESTED[promise]);
        }
        Check.end(name);
    }

    /** What is just and what is farthest outside of least .. most. */
    static int[] outside(int least, int most) {
        return new int[] {least - 1, most + 1, LEAST, MOST};
    }
}
