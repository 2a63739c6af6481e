import java.io.IOException;
import java.nio.file.Files;
import java.nio.file.Path;

/** Asks at the boundaries that the document names; what is wrong is told with the promise and the sentence. */
final class Edges {
    static final int WHAT_IT_IS = Sentences.WHAT_IT_IS;
    static final int TERMS = Sentences.TERMS;
    static final int MIN = Integer.MIN_VALUE;
    static final int MAX = Integer.MAX_VALUE;
    /** What an element that is thrown answers here: above and below any element. */
    static final long NO_SHELF = MAX + 1L;
    static final long NO_ELEMENT = MAX + 2L;
    /** Each lies in the one ahead of it by just as many hairs as it must. */
    static final String NINE =
        "b00099,9;b00097,9;b00095,9;b00093,9;b00091,9;b00089,9;b00087,9;b00085,9;b00083,9;";

    /** How an object comes to be; twice the same. */
    interface Making {
        BowlsWithin make();
    }

    interface Call {
        long on(BowlsWithin x);
    }

    private static final Path DOCUMENT = Path.of("../shared/DOC.md");

    private final Due due = new Due("edges");
    private final Sentences sentences;
    private String asked = "";
    private boolean isTested = true;

    Edges() throws IOException {
        sentences = Files.exists(DOCUMENT) ? new Sentences(DOCUMENT) : null;
    }

    /** What is asked from here on tests these words of a promise. */
    void says(int promise, String sentence) {
        endOfSentence();
        String place = promise == TERMS ? "Terms" : promise == WHAT_IT_IS ? "What it is" : "Promise " + promise;
        asked = place + " says \"" + sentence + "\": ";
        if (sentences != null && !sentences.name(promise, sentence)) {
            due.is(asked + "stands in the document", 0, 1);
        }
    }

    private void endOfSentence() {
        due.is(asked + "is tested", isTested ? 1 : 0, 1);
        isTested = false;
    }

    void is(String call, long got, long want) {
        isTested = true;
        due.is(asked + call, got, want);
    }

    /** The call answers as is due, and all that later calls could show is as if it had not been. */
    void leaves(String call, Making making, Call tried, long want) {
        BowlsWithin x = making.make();
        is(call, tried.on(x), want);
        String then = Shown.by(x);
        String without = Shown.by(making.make());
        if (!then.equals(without)) {
            due.is(asked + call + " changed something:\n " + then + "\n " + without + "\n", 1, 0);
        }
    }

    /** Three bowls at warmth 1, an image unlike them, and on the shelves a text, a bowl, rows of each sort, nothing. */
    static BowlsWithin some() {
        BowlsWithin x = Due.heapOf("b00010,9;b13015,9;w3;");
        x.turn(1);
        x.image();
        x.keep(1, 1, 3, 4);
        x.comes(1, 30, 8, 0);
        x.warm(1);
        Due.write(x, 0, "b34030,8;w1;");
        x.keep(1, 1, 5, 4);
        Due.list(x, 2, 0, 2, 1);
        Due.list(x, 3, 1, 300, -2);
        Due.list(x, 4, 2, 70000, 5, 6);
        x.row(6, 2, 0);
        return x;
    }

    /** No room, and no image. */
    static BowlsWithin full() {
        BowlsWithin x = Due.heapOf(NINE);
        x.keep(1, 1, 5, 4);
        Due.list(x, 2, 0, 2, 1);
        return x;
    }

    /** Plain bowls that come from a shelf, each 9 deep. */
    static BowlsWithin plain(int... widths) {
        BowlsWithin x = new BowlsWithin();
        x.keep(0, 1, 0, 0);
        for (int width : widths) {
            x.comes(0, width, 9, 0);
        }
        return x;
    }

    static long element(BowlsWithin x, int d, int i) {
        try {
            return x.element(d, i);
        } catch (IllegalArgumentException e) {
            return e.getClass() == IllegalArgumentException.class ? NO_SHELF : MIN - 1L;
        } catch (IllegalStateException e) {
            return e.getClass() == IllegalStateException.class ? NO_ELEMENT : MIN - 1L;
        }
    }

    /** Each promise and the terms are named whole. */
    void end() {
        endOfSentence();
        if (sentences == null) {
            System.out.println("edges: there is no " + DOCUMENT + ", so that the sentences can't be looked up");
        } else {
            asked = "";
            due.is("promises in the document", sentences.promises(), Sentences.PROMISES);
            for (String left : sentences.unnamed()) {
                due.is("words that no test names: " + left, 1, 0);
            }
        }
        due.end();
    }
}
