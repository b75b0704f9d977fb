// Each sentence of the document's description and of its promises, quoted, with a test of its own:
// the boundaries that it names, with the values on both sides of them.
public final class EdgesTest {
    public static void main(String[] args) {
        DescriptionEdges.run();
        LetteringEdges.run();
        TextEdges.run();
        ErrorEdges.run();
        PathEdges.run();
        FlatEdges.run();
        DashEdges.run();
        SavingEdges.run();
        Edges.endSentence();
        for (String rest : Edges.BOOK.unquoted()) Edges.C.due("without a test: " + rest, 0, 1);
        Edges.C.finish();
    }
}
