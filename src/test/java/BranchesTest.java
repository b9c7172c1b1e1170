/** Promises 31 to 44: questions about branches, merges, picking and tags. */
final class BranchesTest {
    private BranchesTest() {
    }

    static void all() {
        Sentences.promise(31).test("Returns the number of branches.", BranchesTest::branchCount);
        Sentences.promise(32).test("Returns the head of a branch.", BranchesTest::head);
        Sentences.promise(33).test("Returns the letter in a field of the working document of a branch.",
                BranchesTest::letterAt);
        Sentences.promise(34).test("Returns whether a field of a branch is edited.", BranchesTest::edits);
        Check.test("promise 36", BranchesTest::branchByHead);
        Sentences.promise(38).test("Returns a field that would be a conflict, by its position among these fields.",
                BranchesTest::conflicts);
        Check.test("promise 39", BranchesTest::canMerge);
        Check.test("promise 40", BranchesTest::mergedLetter);
        Check.test("promise 41", BranchesTest::canPick);
        Check.test("promise 42", BranchesTest::tagCount);
        Sentences.promise(43).test("Returns the revision to which a tag belongs.", BranchesTest::taggedRevision);
        Check.test("promise 44", BranchesTest::tagOf);
    }

    private static void branchCount() {
        LetterRepository x = new LetterRepository();
        Check.same("one", x.branchCount(), 1);
        Check.run(x, "branch 0;branch 0;branch 0;branch 0");
        Check.same("five", x.branchCount(), 5);
        Check.run(x, "close 2;close 2");
        Check.same("three", x.branchCount(), 3);
    }

    private static void head() {
        LetterRepository x = Check.after("edit 00b;commit 0 1;branch 0");
        Check.same("0", x.head(0), 1);
        Check.same("1", x.head(1), 0);
        Check.index("2", () -> x.head(2));
        Check.index("-1", () -> x.head(-1));
        Check.run(x, "close 1");
        Check.index("closed", () -> x.head(1));
    }

    private static void letterAt() {
        LetterRepository x = Check.after("edit 00b;commit 0 1;edit 07z;branch 0");
        Check.same("committed", x.letterAt(0, 0), 'b');
        Check.same("edited", x.letterAt(0, 7), 'z');
        Check.same("other branch", x.letterAt(1, 0), 'a');
        Check.index("no branch", () -> x.letterAt(2, 0));
        Check.index("no branch", () -> x.letterAt(-1, 0));
        Check.index("no field", () -> x.letterAt(0, 8));
        Check.index("no field", () -> x.letterAt(1, -1));
    }

    private static void edits() {
        LetterRepository x = Check.after("edit 00b;commit 0 1;edit 00c;edit 07z;branch 0");
        Check.same("edited", x.isEdited(0, 0), true);
        Check.same("edited", x.isEdited(0, 7), true);
        Check.same("not edited", x.isEdited(0, 1), false);
        Check.same("other branch", x.isEdited(1, 0), false);
        Check.same("editCount", x.editCount(0), 2);
        Check.same("editCount", x.editCount(1), 0);
        Check.run(x, "edit 00b");
        Check.same("edited back", x.isEdited(0, 0), false);
        Check.same("editCount", x.editCount(0), 1);
        Check.run(x, "pick 1 1");
        Check.same("picked", x.editCount(1), 1);
        Check.index("no branch", () -> x.isEdited(2, 0));
        Check.index("no branch", () -> x.isEdited(-1, 0));
        Check.index("no field", () -> x.isEdited(0, 8));
        Check.index("no field", () -> x.isEdited(0, -1));
        Check.index("no branch", () -> x.editCount(2));
        Check.index("no branch", () -> x.editCount(-1));
    }

    private static void branchByHead() {
        LetterRepository x = Check.after("edit 00b;commit 0 1;edit 00c;commit 0 2;branch 0;edit 10d;commit 1 3");
        Check.run(x, "branch 1;branch 3;branch 2");
        // heads: 2 (generation 2), 3 (1), 1 (1), 3 (1), 2 (2)
        int[] due = {0, 4, 1, 3, 2};
        for (int rank = 0; rank < 5; rank++) {
            Check.same("rank " + rank, x.branchByHead(rank), due[rank]);
        }
        Check.element("5", () -> x.branchByHead(5));
        Check.element("-1", () -> x.branchByHead(-1));
        Check.same("only one", new LetterRepository().branchByHead(0), 0);
    }

    /** Branch 0 and 1 conflict in the fields 0 and 6. */
    private static LetterRepository conflict() {
        return Check.after("edit 00x;edit 06x;edit 01b;commit 0 1;branch 0;edit 10y;edit 16y;edit 12c;commit 1 2");
    }

    private static void conflicts() {
        LetterRepository x = conflict();
        Check.same("conflictCount", x.conflictCount(0, 1), 2);
        Check.same("conflictCount", x.conflictCount(1, 0), 2);
        Check.same("first", x.conflictAt(0, 1, 0), 0);
        Check.same("second", x.conflictAt(1, 0, 1), 6);
        Check.element("third", () -> x.conflictAt(0, 1, 2));
        Check.element("negative", () -> x.conflictAt(0, 1, -1));
        Check.index("no branch", () -> x.conflictAt(0, 2, 9));
        Check.index("no branch", () -> x.conflictAt(2, 2, 9));
        Check.argument("same", () -> x.conflictAt(1, 1, 9));
        Check.index("no branch", () -> x.conflictCount(-1, 0));
        Check.index("no branch", () -> x.conflictCount(2, 2));
        Check.argument("same", () -> x.conflictCount(0, 0));
        x.edit(0, 0, 'y');
        Check.same("the heads count", x.conflictCount(0, 1), 2);
        Check.run(x, "revert 0;ours 01");
        Check.same("after the merge", x.conflictCount(0, 1), 0);
        Check.element("no conflict", () -> x.conflictAt(0, 1, 0));
    }

    private static void canMerge() {
        LetterRepository x = Check.after("edit 00b;commit 0 1;branch 0;edit 11c;commit 1 2;branch 0");
        Check.same("0 1", x.canMerge(0, 1), true);
        Check.same("2 0", x.canMerge(2, 0), true);
        Check.same("an ancestor", x.canMerge(0, 2), false);
        x.edit(0, 4, 'z');
        Check.same("first is edited", x.canMerge(0, 1), false);
        Check.same("second is edited", x.canMerge(1, 0), false);
        Check.same("conflict", conflict().canMerge(0, 1), false);
        Check.index("no branch", () -> x.canMerge(0, 3));
        Check.index("no branch", () -> x.canMerge(3, 3));
        Check.argument("same", () -> x.canMerge(0, 0));
        LetterRepository full = Check.full();
        full.createBranch(0);
        Check.same("24 revisions", full.canMerge(1, 0), false);
    }

    private static void mergedLetter() {
        LetterRepository x = conflict();
        Check.same("ours", x.mergedLetter(0, 1, 1), 'b');
        Check.same("theirs", x.mergedLetter(0, 1, 2), 'c');
        Check.same("equal", x.mergedLetter(0, 1, 7), 'a');
        Check.element("conflict", () -> x.mergedLetter(0, 1, 0));
        Check.element("conflict", () -> x.mergedLetter(1, 0, 6));
        x.edit(0, 1, 'q');
        Check.same("edited", x.mergedLetter(0, 1, 1), 'b');
        Check.index("no branch", () -> x.mergedLetter(0, 2, 0));
        Check.index("no branch", () -> x.mergedLetter(2, 2, 0));
        Check.index("no field", () -> x.mergedLetter(0, 1, 8));
        Check.index("no field", () -> x.mergedLetter(0, 1, -1));
        Check.index("no field, same", () -> x.mergedLetter(0, 0, 8));
        Check.argument("same", () -> x.mergedLetter(0, 0, 0));
        LetterRepository equal = Check.after("edit 00x;commit 0 1;branch 0;edit 10x;commit 1 2");
        Check.same("both made the same change", equal.mergedLetter(0, 1, 0), 'x');
    }

    private static void canPick() {
        LetterRepository x = Check.after("edit 00b;edit 01c;commit 0 1;branch 0");
        Check.same("into 1", x.canPick(1, 1), true);
        Check.same("root", x.canPick(1, 0), false);
        x.edit(1, 0, 'b');
        Check.same("in part", x.canPick(1, 1), true);
        x.edit(1, 0, 'z');
        Check.same("blocked", x.canPick(1, 1), false);
        x.edit(1, 0, 'a');
        x.edit(1, 7, 'z');
        Check.same("another field is edited", x.canPick(1, 1), true);
        Check.index("no branch", () -> x.canPick(2, 9));
        Check.element("no revision", () -> x.canPick(0, 2));
        Check.element("no revision", () -> x.canPick(0, -1));
        LetterRepository y = Check.after("edit 00b;commit 0 1;reset 0 0;archive");
        Check.same("archived", y.canPick(0, 1), false);
    }

    private static void tagCount() {
        LetterRepository x = new LetterRepository();
        for (char tag = 'A'; tag <= 'Z'; tag++) {
            x.addTag(tag, 0);
            Check.same("tagCount", x.tagCount(), tag - 'A' + 1);
        }
        x.removeTag('Q');
        Check.same("tagCount", x.tagCount(), 25);
    }

    private static void taggedRevision() {
        LetterRepository x = Check.after("edit 00b;commit 0 1;tag Z 1;tag A 0");
        Check.same("Z", x.taggedRevision('Z'), 1);
        Check.same("A", x.taggedRevision('A'), 0);
        Check.element("B", () -> x.taggedRevision('B'));
        Check.element("a", () -> x.taggedRevision('a'));
        Check.element("@", () -> x.taggedRevision('@'));
        Check.element("[", () -> x.taggedRevision('['));
        Check.element("0", () -> x.taggedRevision((char) 0));
        Check.element("65535", () -> x.taggedRevision((char) 65535));
    }

    private static void tagOf() {
        LetterRepository x = Check.after("edit 00b;commit 0 1;tag Z 1;tag C 1;tag B 0");
        Check.same("1", x.tagOf(1), 'C');
        Check.same("0", x.tagOf(0), 'B');
        x.removeTag('C');
        Check.same("1", x.tagOf(1), 'Z');
        x.removeTag('Z');
        Check.element("no tags", () -> x.tagOf(1));
        Check.element("no revision", () -> x.tagOf(2));
        Check.element("no revision", () -> x.tagOf(-1));
    }
}
