import java.io.IOException;
import java.nio.file.Path;

/** Each sentence of the document that names an edge, by its words; and no sentence is left out. */
public final class EdgeTest {
    public static void main(String[] args) throws IOException {
        PlanEdges.check();
        StepEdges.check();
        LockEdges.check();
        TrialEdges.check();
        RefusalEdges.check();
        CallLimitEdges.check();
        Sentences.checkAgainst(Path.of("../shared/DOC.md"));
        Check.finish();
    }
}
