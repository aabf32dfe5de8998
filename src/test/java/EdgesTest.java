import java.io.IOException;

/** A test for each sentence of the document that names an edge; each quotes the sentence that it holds to. */
public final class EdgesTest {
    public static void main(String[] args) throws IOException {
        Doc.open();
        EdgesOfTerms.look();
        EdgesOfADay.look();
        EdgesOfBedsAndQuarriers.look();
        EdgesOfWheelsAndRafts.look();
        EdgesOfWhatIsThere.look();
        EdgesOfWhatWouldBe.look();
        Doc.isQuotedWhole();
        Due.end();
    }
}
