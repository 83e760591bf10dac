import java.io.IOException;

/**
 * Every sentence of the Terms and of promises 1 to 34 that names a boundary case, each with a test of its own.
 * With the document's path as the argument the words that the tests stand for are compared with it.
 */
public final class BoundsTest {
    public static void main(String[] args) throws IOException {
        Sentences s = new Sentences();
        BoundsOfTerms.all(s);
        BoundsOfText.all(s);
        BoundsOfNights.all(s);
        BoundsOfTries.all(s);
        BoundsOfHouse.all(s);
        BoundsOfDeeds.all(s);
        BoundsOfTried.all(s);
        BoundsOfAsked.all(s);
        BoundsOfImages.all(s);
        s.end(args);
    }
}
