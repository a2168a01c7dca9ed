import java.io.IOException;

/** Each sentence of the document, at the edges that it names. */
public final class SentenceTest {
    public static void main(String[] args) throws IOException {
        Sentences say = new Sentences();
        new SentencesOfTheWhole(say).all();
        new SentencesOfTexts(say).all();
        new SentencesOfActs(say).all();
        new SentencesOfAsks(say).all();
        new SentencesOfNotes(say).all();
        say.close();
    }
}
