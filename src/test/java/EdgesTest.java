import java.io.IOException;

/** The document from its first line: each sentence of it, at the boundaries that it names. */
public final class EdgesTest {
    public static void main(String[] args) throws IOException {
        Edges e = new Edges();
        new EdgesOfFirstLine(e).ask();
        new EdgesOfTerms(e).ask();
        new EdgesOfTexts(e).ask();
        new EdgesOfHeaps(e).ask();
        new EdgesOfNests(e).ask();
        new EdgesOfSets(e).ask();
        new EdgesOfTakingOut(e).ask();
        new EdgesOfSpans(e).ask();
        new EdgesOfImage(e).ask();
        new EdgesOfShelves(e).ask();
        e.end();
    }
}
