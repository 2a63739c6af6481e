import java.io.IOException;

/** Promise by promise, each sentence of the document that names a boundary. */
public final class EdgesTest {
    public static void main(String[] args) throws IOException {
        Edges e = new Edges();
        new EdgesOfTerms(e).ask();
        new EdgesOfTexts(e).ask();
        new EdgesOfHeaps(e).ask();
        new EdgesOfNests(e).ask();
        new EdgesOfSets(e).ask();
        new EdgesOfTakingOut(e).ask();
        new EdgesOfSpans(e).ask();
        new EdgesOfImage(e).ask();
        new EdgesOfShelves(e).ask();
        e.end();
    }
}
