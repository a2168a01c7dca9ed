import java.io.IOException;

/** Each sentence of the terms and of promises 1 to 36, at the edges that it names. */
public final class SentenceTest {
    public static void main(String[] args) throws IOException {
        Sentences say = new Sentences();
        new SentencesOfTexts(say).all();
        new SentencesOfActs(say).all();
        new SentencesOfAsks(say).all();
        new SentencesOfNotes(say).all();
        say.close();
    }
}
