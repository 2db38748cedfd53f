import java.io.IOException;

/**
 * The document, sentence by sentence: each test says the words that it looks at, and tries both
 * sides of each boundary that they name. In the end no words are left that no test looked at.
 */
public final class EdgesTest {
    public static void main(String[] args) throws IOException {
        Said.open();
        WholeEdges.run();
        FaceEdges.run();
        AnswerEdges.run();
        WordEdges.run();
        RuleEdges.run();
        TurnEdges.run();
        DropEdges.run();
        PlanEdges.run();
        FoundEdges.run();
        SheetEdges.run();
        Said.end();
        Due.end("EdgesTest");
    }
}
