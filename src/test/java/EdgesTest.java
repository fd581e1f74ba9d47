import java.io.IOException;

/** Every sentence of the document's promises and terms, each with a test of its own: both sides of each bound. */
public final class EdgesTest {
    public static void main(String[] args) throws IOException {
        Doc.read();
        EdgesOfTexts.all();
        EdgesOfTold.all();
        EdgesOfRuns.all();
        EdgesOfPlans.all();
        EdgesOfTrains.all();
        EdgesOfSets.all();
        EdgesOfOdds.all();
        EdgesOfRiders.all();
        Doc.allQuoted();
        Told.finish();
    }
}
