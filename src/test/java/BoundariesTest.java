/** Every sentence of the document that names a boundary, with a test of its own. */
public final class BoundariesTest {
    public static void main(String[] args) throws Exception {
        Sentences doc = new Sentences();
        new BoundariesOfTexts(doc).run();
        new BoundariesOfTimes(doc).run();
        new BoundariesOfProfiles(doc).run();
        new BoundariesOfWays(doc).run();
        new BoundariesOfPlans(doc).run();
        doc.end();
    }
}
