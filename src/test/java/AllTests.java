import java.nio.file.Path;

/** Runs every test of the project; its argument is the path of the document. */
public final class AllTests {
    private AllTests() {
    }

    public static void main(String[] args) {
        FaceTest.all(Path.of(args[0]));
        ChangesTest.all();
        RevisionsTest.all();
        BranchesTest.all();
        StoreTest.all();
        ProgramsTest.all();
        UndoTest.all();
        TermsTest.all();
        GrammarTest.all();
        ChangeBoundsTest.all();
        RevisionBoundsTest.all();
        BranchBoundsTest.all();
        StoreBoundsTest.all();
        UndoBoundsTest.all();
        ConsistencyTest.all();
        ModelTest.all();
        Sentences.compareWith(Path.of(args[0]));
        System.out.println("project: " + Check.passed + " passed, " + Check.failed + " failed");
        if (Check.failed != 0 || Check.passed == 0) {
            System.exit(1);
        }
    }
}
