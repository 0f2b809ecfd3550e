import java.io.IOException;

/** Each sentence of the document has a test of its own here, at the edges that it names and beside them. */
public final class EdgesTest extends Check {
    public static void main(String[] args) throws IOException {
        EdgesOfText.run();
        EdgesOfReckoning.run();
        EdgesOfQuestions.run();
        EdgesOfDesk.run();
        EdgesOfPay.run();
        EdgesOfYear.run();
        EdgesOfRest.run();
        new Document().compare(SENTENCES);
        finish("all edges hold, and each word of the document's terms and promises has a test");
    }
}
