/** Promises 1 to 13: a new object, and the methods that make changes. */
final class ChangesTest {
    private ChangesTest() {
    }

    static void all() {
        Sentences.promise(1).test("Creates a store with the root and the branch 0.", ChangesTest::newObject);
        Sentences.promise(2).test("Puts a letter into a field of the working document of a branch.", ChangesTest::edit);
        Sentences.promise(3).test("Makes the working document of a branch equal to the document of its head.",
                ChangesTest::revert);
        Sentences.promise(4).test("Makes a revision with the working document of a branch.", ChangesTest::commit);
        Sentences.promise(5).test("Creates a branch with a revision as its head.", ChangesTest::createBranch);
        Sentences.promise(6).test("Closes a branch.", ChangesTest::closeBranch);
        Sentences.promise(7).test("Merges the head of another branch into a branch.", ChangesTest::merge);
        Check.test("promise 7 refusals", ChangesTest::mergeRefusals);
        Sentences.promise(8).test("Merges the head of another branch into a branch like merge, but each conflict "
                + "gets the letter of one side.", ChangesTest::mergeKeeping);
        Sentences.promise(9).test("Picks a revision into a branch.", ChangesTest::pick);
        Check.test("promise 9 refusals", ChangesTest::pickRefusals);
        Sentences.promise(10).test("Makes a revision the head of a branch, and its document the working document.",
                ChangesTest::reset);
        Sentences.promise(11).test("Adds a tag to a revision.", ChangesTest::addTag);
        Sentences.promise(12).test("Removes a tag.", ChangesTest::removeTag);
        Sentences.promise(13).test("Archives the store.", ChangesTest::archive);
    }

    private static void newObject() {
        LetterRepository x = new LetterRepository();
        Check.same("revisionCount", x.revisionCount(), 1);
        Check.same("branchCount", x.branchCount(), 1);
        Check.same("head", x.head(0), 0);
        Check.same("root", Check.revision(x, 0), "r0 aaaaaaaa @0");
        Check.same("branch", Check.branch(x, 0), "b0:0 aaaaaaaa");
        Check.same("tagCount", x.tagCount(), 0);
        Check.same("undoableCount", x.undoableCount(), 0);
        Check.same("isArchived", x.isArchived(0), false);
    }

    private static void edit() {
        LetterRepository x = new LetterRepository();
        Check.same("edit", x.edit(0, 0, 'z'), 1);
        Check.same("edit", x.edit(0, 7, 'b'), 2);
        Check.same("edit", x.edit(0, 7, 'c'), 2);
        Check.same("branch", Check.branch(x, 0), "b0:0 ZaaaaaaC");
        Check.same("edit back", x.edit(0, 0, 'a'), 1);
        Check.same("edit nothing", x.edit(0, 3, 'a'), 1);
        Check.same("the root stays", Check.revision(x, 0), "r0 aaaaaaaa @0");
        String before = Check.everything(x);
        Check.index("edit(1)", () -> x.edit(1, 0, 'b'));
        Check.index("edit(-1)", () -> x.edit(-1, 0, 'b'));
        Check.index("edit field 8", () -> x.edit(0, 8, 'b'));
        Check.index("edit field -1", () -> x.edit(0, -1, 'b'));
        Check.index("edit field and letter", () -> x.edit(0, 8, 'B'));
        Check.argument("edit `", () -> x.edit(0, 0, '`'));
        Check.argument("edit {", () -> x.edit(0, 0, '{'));
        Check.argument("edit A", () -> x.edit(0, 0, 'A'));
        Check.argument("edit 65535", () -> x.edit(0, 0, (char) 65535));
        Check.index("edit greatest", () -> x.edit(Integer.MAX_VALUE, Integer.MIN_VALUE, 'a'));
        Check.same("nothing changed", Check.everything(x), before);
    }

    private static void revert() {
        LetterRepository x = Check.after("edit 00b;commit 0 1;edit 00c;edit 05d;branch 0;edit 10q");
        Check.same("revert", x.revert(0), 2);
        Check.same("branch 0", Check.branch(x, 0), "b0:1 baaaaaaa");
        Check.same("branch 1", Check.branch(x, 1), "b1:0 Qaaaaaaa");
        Check.same("revert again", x.revert(0), 0);
        Check.index("revert(2)", () -> x.revert(2));
        Check.index("revert(-1)", () -> x.revert(-1));
    }

    private static void commit() {
        LetterRepository x = Check.after("edit 00b;edit 07c;branch 0");
        Check.same("commit", x.commit(0, 9), 1);
        Check.same("revision", Check.revision(x, 1), "r1 baaaaaac @9 <0");
        Check.same("branch", Check.branch(x, 0), "b0:1 baaaaaac");
        Check.same("other branch", Check.branch(x, 1), "b1:0 aaaaaaaa");
        Check.state("commit without edits", () -> x.commit(0, 0));
        x.edit(0, 0, 'a');
        Check.same("commit", x.commit(0, 0), 2);
        Check.same("revision", Check.revision(x, 2), "r2 aaaaaaac @0 <1");
        Check.index("no branch, no author", () -> x.commit(2, 10));
        Check.index("no branch", () -> x.commit(-1, 0));
        Check.argument("author 10, no edits", () -> x.commit(0, 10));
        Check.argument("author -1", () -> x.commit(0, -1));
        LetterRepository full = Check.full();
        Check.same("revisionCount", full.revisionCount(), 24);
        full.edit(0, 0, 'q');
        Check.state("25th revision", () -> full.commit(0, 1));
        Check.same("revisionCount", full.revisionCount(), 24);
        Check.same("branch", full.letterAt(0, 0), 'q');
    }

    private static void createBranch() {
        LetterRepository x = Check.after("edit 00b;commit 0 1;edit 01z");
        Check.same("createBranch", x.createBranch(1), 1);
        Check.same("branch", Check.branch(x, 1), "b1:1 baaaaaaa");
        Check.same("createBranch", x.createBranch(0), 2);
        Check.same("branch", Check.branch(x, 2), "b2:0 aaaaaaaa");
        Check.element("no revision", () -> x.createBranch(2));
        Check.element("no revision", () -> x.createBranch(-1));
        x.createBranch(0);
        Check.same("fifth", x.createBranch(0), 4);
        Check.state("sixth", () -> x.createBranch(0));
        Check.element("sixth without revision", () -> x.createBranch(24));
        Check.same("branchCount", x.branchCount(), 5);
        LetterRepository y = Check.after("edit 00b;commit 0 1;reset 0 0;archive");
        Check.element("archived", () -> y.createBranch(1));
        for (int i = 0; i < 4; i++) {
            y.createBranch(0);
        }
        Check.element("archived comes first", () -> y.createBranch(1));
    }

    private static void closeBranch() {
        LetterRepository x = Check.after("edit 00b;commit 0 1;branch 0;edit 11c;branch 1;edit 22d");
        Check.index("closeBranch(3)", () -> x.closeBranch(3));
        Check.index("closeBranch(-1)", () -> x.closeBranch(-1));
        Check.same("closeBranch", x.closeBranch(0), 2);
        Check.same("branch 0", Check.branch(x, 0), "b0:0 aCaaaaaa");
        Check.same("branch 1", Check.branch(x, 1), "b1:1 baDaaaaa");
        Check.same("closeBranch last", x.closeBranch(1), 1);
        Check.same("branch 0", Check.branch(x, 0), "b0:0 aCaaaaaa");
        Check.state("only branch", () -> x.closeBranch(0));
        Check.index("no branch", () -> x.closeBranch(1));
        Check.same("revisionCount", x.revisionCount(), 2);
        Check.same("new branch is clean", x.createBranch(0), 1);
        Check.same("branch 1", Check.branch(x, 1), "b1:0 aaaaaaaa");
    }

    private static void merge() {
        LetterRepository x = Check.after("edit 00b;edit 03m;commit 0 3;branch 0;edit 11c;edit 13m;commit 1 4");
        Check.same("merge", x.merge(0, 1), 3);
        Check.same("revision", Check.revision(x, 3), "r3 bcamaaaa @4 <1+2");
        Check.same("branch 0", Check.branch(x, 0), "b0:3 bcamaaaa");
        Check.same("branch 1", Check.branch(x, 1), "b1:2 acamaaaa");
        Check.state("merged already", () -> x.merge(0, 1));
        Check.same("the other way", x.merge(1, 0), 4);
        Check.same("revision", Check.revision(x, 4), "r4 bcamaaaa @4 <2+3");
        LetterRepository back = Check.after("edit 00b;edit 01c;commit 0 1;branch 1;edit 10a;commit 1 2");
        Check.each(back, "edit 02d;commit 0 5");
        Check.same("a letter changed back", back.merge(0, 1), 4);
        Check.same("revision", Check.revision(back, 4), "r4 acdaaaaa @2 <3+2");
    }

    private static void mergeRefusals() {
        LetterRepository x = Check.after("edit 00b;commit 0 3;branch 0;edit 10c;commit 1 4;branch 0");
        String before = Check.everything(x);
        Check.index("no branch", () -> x.merge(0, 3));
        Check.index("no branch", () -> x.merge(-1, 0));
        Check.index("same but missing", () -> x.merge(3, 3));
        Check.argument("same", () -> x.merge(1, 1));
        Check.state("conflict", () -> x.merge(0, 1));
        Check.state("other is an ancestor", () -> x.merge(0, 2));
        Check.same("nothing changed", Check.everything(x), before);
        Check.same("forward", x.merge(2, 0), 3);
        Check.same("revision", Check.revision(x, 3), "r3 baaaaaaa @3 <0+1");
        LetterRepository y = Check.after("edit 00b;commit 0 3;branch 0;edit 11c;commit 1 4");
        y.edit(0, 5, 'q');
        Check.state("first is edited", () -> y.merge(0, 1));
        Check.argument("same and edited", () -> y.merge(0, 0));
        y.revert(0);
        y.edit(1, 5, 'q');
        Check.state("second is edited", () -> y.merge(0, 1));
        y.revert(1);
        Check.same("merge", y.merge(0, 1), 3);
        LetterRepository equal = Check.after("branch 0");
        Check.state("equal heads", () -> equal.merge(0, 1));
        LetterRepository full = Check.full();
        full.createBranch(0);
        Check.state("24 revisions", () -> full.merge(1, 0));
        Check.same("revisionCount", full.revisionCount(), 24);
    }

    private static void mergeKeeping() {
        String conflict = "edit 00x;edit 01b;commit 0 1;branch 0;edit 10y;edit 12z;commit 1 2";
        LetterRepository ours = Check.after(conflict);
        Check.same("ours", ours.mergeKeeping(0, 1, true), 3);
        Check.same("revision", Check.revision(ours, 3), "r3 xbzaaaaa @2 <1+2");
        Check.same("branch", Check.branch(ours, 0), "b0:3 xbzaaaaa");
        LetterRepository theirs = Check.after(conflict);
        Check.same("theirs", theirs.mergeKeeping(0, 1, false), 3);
        Check.same("revision", Check.revision(theirs, 3), "r3 ybzaaaaa @2 <1+2");
        Check.same("branch", Check.branch(theirs, 1), "b1:2 yazaaaaa");
        Check.state("ancestor", () -> theirs.mergeKeeping(0, 1, true));
        Check.index("no branch", () -> theirs.mergeKeeping(2, 2, true));
        Check.index("no branch", () -> theirs.mergeKeeping(0, -1, false));
        Check.argument("same", () -> theirs.mergeKeeping(0, 0, true));
        theirs.edit(0, 0, 'q');
        Check.state("edited", () -> theirs.mergeKeeping(1, 0, true));
        theirs.revert(0);
        theirs.edit(1, 0, 'q');
        Check.state("edited", () -> theirs.mergeKeeping(1, 0, true));
        theirs.revert(1);
        Check.same("without conflict", theirs.mergeKeeping(1, 0, true), 4);
        LetterRepository full = Check.full();
        full.createBranch(0);
        Check.state("24 revisions", () -> full.mergeKeeping(1, 0, false));
    }

    private static void pick() {
        LetterRepository x = Check.after("edit 00b;commit 0 1;edit 01c;edit 02d;commit 0 2;branch 0;edit 15q");
        Check.same("pick", x.pick(1, 2), 2);
        Check.same("working document only", Check.branch(x, 1), "b1:0 aCDaaQaa");
        Check.same("pick again", x.pick(1, 2), 0);
        x.edit(1, 1, 'a');
        Check.same("pick in part", x.pick(1, 2), 1);
        Check.same("revisionCount", x.revisionCount(), 3);
        Check.same("pick into its own branch", x.pick(0, 1), 0);
        LetterRepository merge = Check.after("edit 00b;commit 0 1;branch 0;edit 11c;commit 1 2;merge 01;branch 0");
        Check.same("a merge against its first parent", merge.pick(2, 3), 1);
        Check.same("branch", Check.branch(merge, 2), "b2:0 aCaaaaaa");
    }

    private static void pickRefusals() {
        LetterRepository x = Check.after("edit 00b;edit 01c;commit 0 1;branch 0;edit 10z");
        String before = Check.everything(x);
        Check.index("no branch", () -> x.pick(2, 1));
        Check.index("no branch, no revision", () -> x.pick(-1, 9));
        Check.element("no revision", () -> x.pick(0, 2));
        Check.element("no revision", () -> x.pick(0, -1));
        Check.state("root", () -> x.pick(0, 0));
        Check.state("blocked", () -> x.pick(1, 1));
        Check.same("nothing changed", Check.everything(x), before);
        LetterRepository y = Check.after("edit 00b;commit 0 1;reset 0 0;archive");
        Check.element("archived", () -> y.pick(0, 1));
        LetterRepository back = Check.after("edit 00b;commit 0 1;edit 00a;edit 01c;commit 0 2;branch 1");
        Check.same("a letter changed back", back.pick(1, 2), 2);
        Check.same("branch", Check.branch(back, 1), "b1:1 ACaaaaaa");
    }

    private static void reset() {
        LetterRepository x = Check.after("edit 00b;commit 0 1;edit 01c;commit 0 2");
        Check.same("reset", x.reset(0, 0), 2);
        Check.same("branch", Check.branch(x, 0), "b0:0 aaaaaaaa");
        Check.same("reset", x.reset(0, 2), 0);
        Check.same("branch", Check.branch(x, 0), "b0:2 bcaaaaaa");
        Check.same("reset to the head", x.reset(0, 2), 2);
        Check.index("no branch", () -> x.reset(1, 9));
        Check.element("no revision", () -> x.reset(0, 3));
        Check.element("no revision", () -> x.reset(0, -1));
        x.edit(0, 0, 'z');
        Check.element("no revision, edited", () -> x.reset(0, 3));
        Check.state("edited", () -> x.reset(0, 1));
        Check.same("branch", Check.branch(x, 0), "b0:2 Zcaaaaaa");
        LetterRepository y = Check.after("edit 00b;commit 0 1;reset 0 0;archive");
        Check.element("archived", () -> y.reset(0, 1));
    }

    private static void addTag() {
        LetterRepository x = Check.after("edit 00b;commit 0 1;edit 00c;commit 0 2;reset 0 1;archive");
        Check.same("addTag", x.addTag('A', 0), 1);
        Check.same("addTag", x.addTag('Z', 0), 2);
        Check.same("addTag", x.addTag('M', 1), 3);
        Check.same("taggedRevision", x.taggedRevision('M'), 1);
        Check.state("taken", () -> x.addTag('A', 1));
        Check.state("taken by the same", () -> x.addTag('A', 0));
        Check.element("taken, no revision", () -> x.addTag('A', 3));
        Check.element("no revision", () -> x.addTag('B', -1));
        Check.element("archived", () -> x.addTag('B', 2));
        Check.argument("@", () -> x.addTag('@', 9));
        Check.argument("[", () -> x.addTag('[', 0));
        Check.argument("a", () -> x.addTag('a', 0));
        Check.same("tagCount", x.tagCount(), 3);
    }

    private static void removeTag() {
        LetterRepository x = Check.after("edit 00b;commit 0 1;tag A 1;tag Z 0");
        Check.same("removeTag", x.removeTag('A'), 1);
        Check.same("tagCount", x.tagCount(), 1);
        Check.element("removed", () -> x.removeTag('A'));
        Check.element("never added", () -> x.removeTag('B'));
        Check.element("a", () -> x.removeTag('a'));
        Check.element("@", () -> x.removeTag('@'));
        Check.element("[", () -> x.removeTag('['));
        Check.element("65535", () -> x.removeTag((char) 65535));
        Check.same("removeTag", x.removeTag('Z'), 0);
        Check.same("add again", x.addTag('A', 0), 1);
    }

    private static void archive() {
        LetterRepository x = new LetterRepository();
        Check.same("archive", x.archive(), 0);
        Check.run(x, "edit 00b;commit 0 1;edit 00c;commit 0 2;edit 00d;commit 0 3");
        Check.run(x, "tag A 2;reset 0 0");
        Check.same("archive", x.archive(), 1);
        Check.same("archived", Check.revision(x, 3), "r3 daaaaaaa @3 <2 !");
        Check.same("tagged", x.isArchived(2), false);
        Check.same("its parent", x.isArchived(1), false);
        Check.same("again", x.archive(), 0);
        x.removeTag('A');
        Check.same("without the tag", x.archive(), 2);
        Check.same("root", x.isArchived(0), false);
        LetterRepository y = Check.after("edit 00b;commit 0 1;branch 0;edit 11c;commit 1 2;merge 01;reset 1 0");
        Check.same("a second parent is in use", y.archive(), 0);
    }
}
