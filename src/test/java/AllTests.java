import java.nio.file.Path;

/** Runs every test of the project; its arguments are the path of the document and that of the project. */
public final class AllTests {
    private AllTests() {
    }

    public static void main(String[] args) {
        FaceTest.all(Path.of(args[0]));
        ChangesTest.all();
        RevisionsTest.all();
        BranchesTest.all();
        StoreTest.all();
        ProgramsTest.all();
        UndoTest.all();
        TermsTest.all();
        GrammarTest.all();
        ChangeBoundsTest.all();
        RevisionBoundsTest.all();
        BranchBoundsTest.all();
        StoreBoundsTest.all();
        UndoBoundsTest.all();
        UnchangedTest.all();
        AnsweredTest.all();
        ConsistencyTest.all();
        ReadmeTest.all(Path.of(args[1]));
        ModelTest.all();
        Sentences.compareWith(Path.of(args[0]));
        System.out.println("project: " + Check.passed + " passed, " + Check.failed + " failed");
        if (Check.failed != 0 || Check.passed == 0) {
            System.exit(1);
        }
    }
}
