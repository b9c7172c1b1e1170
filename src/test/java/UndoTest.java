/** Promises 58 to 61: undo and the saved copy. */
final class UndoTest {
    private UndoTest() {
    }

    static void all() {
        Sentences.promise(58).test("Returns the number of changes that can be undone.", UndoTest::undoableCount);
        Check.test("promise 59", UndoTest::undo);
        Check.test("promise 59: every change", UndoTest::everyChange);
        Check.test("promise 59: the ring", UndoTest::ring);
        Check.test("promise 59: what undo leaves", UndoTest::leaves);
        Check.test("promise 59: what was undone cannot be asked for", UndoTest::undoneIsGone);
        Check.test("promise 60", UndoTest::save);
        Check.test("promise 61", UndoTest::restore);
        Check.test("promise 61: the stored positions", UndoTest::storedPositions);
        Check.test("promises 59 and 61: other revisions with the same numbers", UndoTest::sameNumbers);
    }

    private static void undoableCount() {
        LetterRepository x = new LetterRepository();
        for (int i = 1; i <= 10; i++) {
            x.edit(0, 0, 'b');
            Check.same("undoableCount", x.undoableCount(), Math.min(i, 8));
        }
        x.undo();
        Check.same("undoableCount", x.undoableCount(), 7);
        Check.index("refused", () -> x.edit(1, 0, 'b'));
        Check.argument("malformed", () -> Check.run(x, "x"));
        Check.state("failed", () -> Check.run(x, "archive;close 0"));
        Check.same("exceptions are no changes", x.undoableCount(), 7);
        x.save();
        x.formatBranch(0);
        x.isConsistent();
        x.append('a');
        Check.same("questions are no changes", x.undoableCount(), 7);
        x.archive();
        Check.same("archive", x.undoableCount(), 8);
    }

    private static void undo() {
        LetterRepository x = new LetterRepository();
        Check.state("nothing", () -> x.undo());
        x.edit(0, 0, 'b');
        x.commit(0, 1);
        x.edit(0, 0, 'b');
        Check.same("undo", x.undo(), 2);
        Check.same("no effect", Check.branch(x, 0), "b0:1 baaaaaaa");
        Check.same("undo", x.undo(), 1);
        Check.same("before the commit", Check.branch(x, 0), "b0:0 Baaaaaaa");
        Check.same("revisionCount", x.revisionCount(), 1);
        x.edit(0, 1, 'c');
        Check.same("undoableCount", x.undoableCount(), 2);
        Check.same("undo", x.undo(), 1);
        Check.same("undo", x.undo(), 0);
        Check.same("as at first", Check.branch(x, 0), "b0:0 aaaaaaaa");
        Check.state("nothing", () -> x.undo());
    }

    private static void everyChange() {
        Refused.Call[] changes = {x -> x.edit(0, 0, 'b'), x -> x.commit(0, 1), x -> x.edit(0, 1, 'c'),
            x -> x.revert(0), x -> x.revert(0), x -> x.createBranch(0),
            x -> Check.run(x, "edit 11c;commit 1 2;branch 0;edit 20z;commit 2 3"), x -> x.merge(0, 1),
            x -> x.mergeKeeping(1, 2, false), x -> x.closeBranch(0), x -> x.reset(1, 0), x -> x.pick(1, 1),
            x -> x.addTag('Q', 1), x -> x.removeTag('Q'), x -> x.archive()};
        for (int count = 0; count < changes.length; count++) {
            LetterRepository x = new LetterRepository();
            for (int i = 0; i < count; i++) {
                changes[i].on(x);
            }
            String before = Refused.content(x);
            changes[count].on(x);
            Check.same("undoableCount after change " + count, x.undoableCount(), Math.min(count + 1, 8));
            boolean isArchived = x.revisionCount() > 4 && x.isArchived(4);
            Check.same("only the last one archives", isArchived, count == changes.length - 1);
            Check.same("undo change " + count, x.undo(), Math.min(count, 7));
            Check.same("undone change " + count, Refused.content(x), before);
        }
    }

    private static String letters(LetterRepository x) {
        StringBuilder letters = new StringBuilder();
        for (int field = 0; field < 8; field++) {
            letters.append(x.letterAt(0, field));
        }
        return letters.toString();
    }

    private static void ring() {
        LetterRepository x = new LetterRepository();
        String[] documents = new String[21];
        for (int i = 0; i < 20; i++) {
            documents[i] = letters(x);
            x.edit(0, i % 8, (char) ('b' + i));
        }
        documents[20] = letters(x);
        for (int i = 0; i < 8; i++) {
            Check.state("a failed run spoils nothing", () -> Check.run(x, "edit 00z;close 0"));
            Check.same("document", letters(x), documents[20 - i]);
            Check.same("undo", x.undo(), 7 - i);
        }
        Check.same("document", letters(x), documents[12]);
        Check.state("no more", () -> x.undo());
    }

    private static void leaves() {
        LetterRepository x = new LetterRepository();
        Check.run(x, "edit 00b");
        x.save();
        Check.argument("malformed", () -> Check.run(x, "ed"));
        Check.state("failed", () -> Check.run(x, "archive;archive;close 0"));
        x.append('e');
        x.formatBranch(0);
        x.undo();
        Check.same("line", Check.line(x, 13), "b0:0 Baaaaaaa");
        Check.same("errorPosition", x.errorPosition(), 2);
        Check.same("failedCommand", x.failedCommand(), 2);
        Check.same("buffer", x.append('d'), 2);
        x.restore();
        Check.same("saved copy", x.letterAt(0, 0), 'b');
    }

    private static void save() {
        LetterRepository x = new LetterRepository();
        Check.same("save", x.save(), 1);
        Check.run(x, "edit 00b;commit 0 1;tag A 0");
        Check.same("save", x.save(), 2);
        String saved = Refused.content(x);
        Check.run(x, "untag A;branch 0;edit 10q;reset 0 0;archive");
        Check.same("restore", x.restore(), 2);
        Check.same("the later copy", Refused.content(x), saved);
    }

    private static void restore() {
        LetterRepository x = new LetterRepository();
        Check.state("no copy", () -> x.restore());
        Check.each(x, "edit 00b;commit 0 1;branch 0;edit 11c;commit 1 2;merge 01;tag T 3");
        Check.run(x, "reset 0 0;edit 03q");
        String saved = Refused.content(x);
        Check.same("save", x.save(), 4);
        Check.run(x, "revert 0;untag T;archive;close 1;edit 07z;commit 0 9");
        Check.same("restore", x.restore(), 4);
        Check.same("the copy", Refused.content(x), saved);
        Check.same("undoableCount", x.undoableCount(), 0);
        Check.state("no undo", () -> x.undo());
        Check.run(x, "revert 0;edit 07y;commit 0 8");
        Check.same("undoableCount", x.undoableCount(), 1);
        Check.same("restore again", x.restore(), 4);
        Check.same("the copy stays", Refused.content(x), saved);
        x.formatRevision(0);
        Check.type(x, "archiv");
        x.restore();
        Check.same("the line stays", Check.line(x, 14), "r0 aaaaaaaa @0");
        Check.same("the buffer stays", x.append('e'), 7);
        Check.same("run", x.run(), 1);
    }

    private static void storedPositions() {
        LetterRepository x = new LetterRepository();
        x.save();
        Check.argument("malformed", () -> Check.run(x, "arch"));
        Check.state("fails", () -> Check.run(x, "archive;close 9"));
        x.restore();
        Check.same("the error position stays", x.errorPosition(), 4);
        Check.same("the failed command stays", x.failedCommand(), 1);
    }

    private static void undoneIsGone() {
        LetterRepository x = Check.after("edit 00b;commit 0 1;branch 0;edit 11c;commit 1 2");
        x.merge(0, 1);
        x.addTag('A', 3);
        x.undo();
        x.undo();
        Check.element("firstParent", () -> x.firstParent(3));
        Check.element("secondParent", () -> x.secondParent(3));
        Check.element("authorOf", () -> x.authorOf(3));
        Check.element("generation", () -> x.generation(3));
        Check.element("letterIn", () -> x.letterIn(3, 0));
        Check.element("isArchived", () -> x.isArchived(3));
        Check.element("taggedRevision", () -> x.taggedRevision('A'));
        Check.element("createBranch", () -> x.createBranch(3));
        x.undo();
        x.undo();
        x.undo();
        Check.index("head", () -> x.head(1));
    }

    /** A store whose revision 2 was saved as a merge, undone, and made once more as a commit. */
    private static void sameNumbers() {
        LetterRepository x = new LetterRepository();
        x.edit(0, 0, 'b');
        x.commit(0, 1);
        x.createBranch(0);
        x.edit(1, 1, 'c');
        x.commit(1, 2);
        x.merge(0, 1);
        String saved = Refused.content(x);
        x.save();
        for (int i = 0; i < 6; i++) {
            x.undo();
        }
        Check.same("revisionCount", x.revisionCount(), 1);
        Check.each(x, "edit 07z;commit 0 7;edit 06y;commit 0 6;branch 0;edit 15q;commit 1 5");
        String others = Refused.content(x);
        Check.same("generation", x.generation(2), 2);
        x.archive();
        x.undo();
        Check.same("undo", Refused.content(x), others);
        x.restore();
        Check.same("restore", Refused.content(x), saved);
        Check.same("generation", x.generation(2), 1);
        Check.same("ancestors", x.ancestorCount(3), 4);
        Check.same("ancestors", x.ancestorCount(2), 2);
        Check.same("origin", x.originOf(3, 7), 0);
        Check.same("commonAncestor", x.commonAncestorBySets(1, 2), 0);
    }
}
