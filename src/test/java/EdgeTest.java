import java.nio.file.Path;

/** Boundary cases, a test for each sentence of the document; fails too if a sentence has none. Run where src is. */
public final class EdgeTest {
    private EdgeTest() {
    }

    public static void main(String[] args) throws Exception {
        Edges.begin(new Document(Path.of("../shared/DOC.md")));
        EdgesOfTerms.run();
        EdgesOfTexts.run();
        EdgesOfNets.run();
        EdgesOfCrowds.run();
        EdgesOfYears.run();
        EdgesOfCalls.run();
        EdgesOfQuestions.run();
        Edges.close();
    }
}
