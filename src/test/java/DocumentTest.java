/** Every sentence of the document, from its first line to its last, with a test of its own. */
public final class DocumentTest {
    public static void main(String[] args) throws Exception {
        Sentences doc = new Sentences();
        new WhatItIs(doc).run();
        new BoundariesOfTexts(doc).run();
        new BoundariesOfTimes(doc).run();
        new BoundariesOfProfiles(doc).run();
        new BoundariesOfWays(doc).run();
        new BoundariesOfPlans(doc).run();
        doc.end();
    }
}
