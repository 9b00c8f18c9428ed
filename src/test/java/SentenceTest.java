import java.io.IOException;
import java.nio.file.Path;

/** Every sentence of the document's terms and promises, each with tests of its own for its edges. */
public final class SentenceTest {
    private static final int TERMS_AND_PROMISES = 1 + 20;

    public static void main(String[] args) throws IOException {
        Document document = new Document(Path.of(System.getProperty("project.root", "."), "../shared/DOC.md"));
        Sentences[] parts = {new TensorTerms(document), new WindowTerms(document), new ScalingTerms(document),
            new SmallerTerms(document), new PlanTerms(document), new ThrownTerms(document),
            new MakingPromises(document), new RunningPromises(document)};
        for (Sentences part : parts) {
            part.all();
        }
        Check.part("sentences");
        Check.holds("the document has its terms and twenty promises", document.sections() == TERMS_AND_PROMISES);
        Check.same("", document.notNamed());
        Check.end();
    }
}
