/** Each sentence of the document that names an edge, at the edge and just beside it. */
public final class EdgeTest {
    private EdgeTest() {
    }

    public static void main(String[] args) {
        TownEdges.all();
        ShelfEdges.all();
        WrittenEdges.all();
        PlanEdges.all();
        DayEdges.all();
        AnswerEdges.all();
        Report.endOfSentences("EdgeTest");
    }
}
