import java.io.IOException;

/** The document, sentence by sentence: each has at least one test of its own, most of them of its boundaries. */
public final class EdgesTest {
    private EdgesTest() {
    }

    public static void main(String[] args) throws IOException {
        Check check = new Check();
        Sentences sentences = new Sentences(check);
        new RefusalEdges(sentences, check).tell();
        new DrawingEdges(sentences, check).tell();
        new SheetEdges(sentences, check).tell();
        new PegEdges(sentences, check).tell();
        new FrameEdges(sentences, check).tell();
        new FilmEdges(sentences, check).tell();
        sentences.complainOfUntested();
        System.out.println(sentences.count() + " tests of sentences");
        check.end();
    }
}
