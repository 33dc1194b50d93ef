/** Each sentence of the document, at the edges of what it says: a test of its own that bears its name. */
final class EdgesTest {
    public static void main(String[] args) {
        EdgeRoute.tests();
        EdgeNumbers.tests();
        EdgeCamels.tests();
        EdgeLoads.tests();
        EdgeDays.tests();
        EdgeDrinks.tests();
        EdgeJourney.tests();
        EdgeText.tests();
        EdgeInput.tests();
        EdgeChanges.tests();
        EdgeWriting.tests();
        EdgeOrder.tests();
        Sentence.everyOneHasATest();
        Check.end();
    }
}
