import java.io.IOException;

/** Every sentence of the document with a test of its own. */
public final class SentencesTest {
    public static void main(String[] args) throws IOException {
        Sentences.begin();
        TermsOfBooks.all();
        TermsOfWays.all();
        TermsOfMatching.all();
        TermsOfTrades.all();
        TermsOfAuctions.all();
        TermsOfDefaults.all();
        PromisesOfBooks.all();
        PromisesOfOrders.all();
        PromisesOfTrades.all();
        PromisesOfQuestions.all();
        PromisesOfMembers.all();
        Sentences.end();
        Checks.end("SentencesTest");
    }
}
