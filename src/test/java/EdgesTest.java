/** Each sentence of the document that names a boundary case holds; each test quotes the words that it is for. */
public final class EdgesTest {
    public static void main(String[] args) {
        EdgesOfTerms.all();
        EdgesOfCrossings.all();
        EdgesOfQuestions.all();
        EdgesOfOrders.all();
        EdgesOfSway.all();
        EdgesOfTexts.all();
        EdgesOfSheets.all();
        Edges.allQuoted();
        Due.end();
    }
}
