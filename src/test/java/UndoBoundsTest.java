/** Promises 58 to 61: their sentences with a boundary. */
final class UndoBoundsTest {
    private UndoBoundsTest() {
    }

    static void all() {
        Sentences.promise(58).test("Returns the number, 0 to 8.", UndoBoundsTest::undoableCount);
        undo();
        Sentences.promise(60).test("Saves a copy of everything that changes can change, replacing an earlier copy.",
                UndoBoundsTest::save);
        restore();
    }

    private static void undoableCount() {
        LetterRepository x = new LetterRepository();
        Check.same("new", x.undoableCount(), 0);
        for (int i = 1; i <= 20; i++) {
            x.edit(0, 0, (char) ('a' + i));
            Check.same("after " + i, x.undoableCount(), Math.min(i, 8));
        }
        for (int i = 7; i >= 0; i--) {
            x.undo();
            Check.same("undone", x.undoableCount(), i);
        }
        Check.state("none", () -> x.undo());
        Check.same("still none", x.undoableCount(), 0);
        x.edit(0, 0, 'b');
        Check.same("one again", x.undoableCount(), 1);
        LetterRepository few = Stores.plain();
        few.edit(0, 1, 'c');
        few.undo();
        few.undo();
        Check.same("undone both", few.undoableCount(), 0);
        LetterRepository restored = Stores.small();
        restored.restore();
        Check.same("restored", restored.undoableCount(), 0);
    }

    private static void undo() {
        Sentences s = Sentences.promise(59);
        s.test("Undoes the latest change that has not been undone.", () -> {
            LetterRepository x = new LetterRepository();
            for (int i = 1; i <= 12; i++) {
                x.edit(0, 0, (char) ('a' + i));
            }
            x.undo();
            x.undo();
            Check.same("two undone", x.letterAt(0, 0), 'k');
            x.edit(0, 0, 'z');
            Check.same("one more", x.undoableCount(), 7);
            x.undo();
            Check.same("the later one", x.letterAt(0, 0), 'k');
            for (int i = 5; i >= 0; i--) {
                Check.same("undo", x.undo(), i);
                Check.same("the earlier ones", x.letterAt(0, 0), (char) ('e' + i));
            }
            Check.state("none", () -> x.undo());
        });
        s.test("Returns the number of changes that can still be undone.", () -> {
            for (int changes = 1; changes <= 10; changes++) {
                LetterRepository x = new LetterRepository();
                for (int i = 0; i < changes; i++) {
                    x.archive();
                }
                for (int i = Math.min(changes, 8) - 1; i >= 0; i--) {
                    Check.same("undo", x.undo(), i);
                    Check.same("undoableCount", x.undoableCount(), i);
                }
            }
        });
        s.state("no change can be undone", () -> {
            Refused.state("new", LetterRepository::new, x -> x.undo());
            Refused.state("only questions and refused calls", () -> {
                LetterRepository x = new LetterRepository();
                x.save();
                x.formatBranch(0);
                Check.index("refused", () -> x.edit(1, 0, 'b'));
                Check.argument("malformed", () -> Check.run(x, "archive;"));
                Check.state("fails", () -> Check.run(x, "archive;close 0"));
                Check.type(x, "un");
                return x;
            }, x -> x.undo());
            Refused.state("eight undone", () -> undone(Stores.small(), 8), x -> x.undo());
            Refused.state("eight of 24 undone", () -> undone(Stores.full(), 8), x -> x.undo());
            Refused.state("one undone", () -> undone(Stores.plain(), 1), x -> x.undo());
            Refused.state("restored", () -> {
                LetterRepository x = Stores.small();
                x.restore();
                return x;
            }, x -> x.undo());
            Check.same("the eighth", undone(Stores.small(), 7).undo(), 0);
        });
    }

    private static LetterRepository undone(LetterRepository x, int count) {
        for (int i = 0; i < count; i++) {
            x.undo();
        }
        return x;
    }

    /** After each kind of change the copy is still what was saved. */
    private static void save() {
        String saved = Refused.content(Stores.small());
        Check.same("small is of 6 revisions", Stores.small().save(), 6);
        Check.same("full is of 24", Stores.full().save(), 24);
        Check.same("new is of one", new LetterRepository().save(), 1);
        Refused.Call[] changes = {x -> x.edit(0, 0, 'q'), x -> x.revert(3), x -> x.commit(3, 9),
            x -> x.createBranch(5), x -> x.closeBranch(0), x -> x.merge(1, 2), x -> x.mergeKeeping(0, 2, false),
            x -> x.pick(3, 1), x -> x.reset(0, 0), x -> x.addTag('Z', 0), x -> x.removeTag('A'),
            x -> Check.run(x, "vert 3;reset 2 0;archive"), x -> x.undo()};
        for (Refused.Call change : changes) {
            LetterRepository x = Stores.small();
            Check.same("save", x.save(), 6);
            change.on(x);
            Check.same("a change", Refused.content(x).equals(saved), false);
            Check.same("restore", x.restore(), 6);
            Check.same("the copy", Refused.content(x), saved);
        }
        LetterRepository x = Stores.small();
        x.save();
        x.restore();
        Check.same("nothing between", Refused.content(x), saved);
        x.edit(0, 0, 'q');
        x.save();
        x.undo();
        x.restore();
        Check.same("the later copy", x.letterAt(0, 0), 'q');
        LetterRepository counted = Stores.small();
        Check.same("saving is no change", counted.undoableCount(), 8);
        undone(counted, 3);
        counted.save();
        Check.same("undoableCount", counted.undoableCount(), 5);
        Check.same("undo goes on", counted.undo(), 4);
    }

    private static void restore() {
        Sentences s = Sentences.promise(61);
        s.test("Restores the saved copy, which stays available.", () -> {
            LetterRepository x = new LetterRepository();
            x.edit(0, 0, 'b');
            x.save();
            for (int i = 1; i <= 10; i++) {
                x.edit(0, 0, (char) ('b' + i));
                x.createBranch(0);
                x.commit(0, 1);
                x.addTag('Q', 1);
                Check.same("restore", x.restore(), 1);
                Check.same("branch", Check.branch(x, 0), "b0:0 Baaaaaaa");
                Check.same("tagCount", x.tagCount() + x.branchCount(), 1);
            }
            Check.same("at once again", x.restore(), 1);
            LetterRepository full = Stores.full();
            full.save();
            full.undo();
            full.undo();
            Check.same("the last revision again", full.restore(), 24);
            Check.same("head", full.head(0), 23);
        });
        s.test("No changes can be undone afterwards.", () -> {
            LetterRepository x = Stores.small();
            Check.same("before", x.undoableCount(), 8);
            x.restore();
            Check.same("afterwards", x.undoableCount(), 0);
            Check.state("undo", () -> x.undo());
            for (int i = 1; i <= 9; i++) {
                x.archive();
                Check.same("later changes", x.undoableCount(), Math.min(i, 8));
            }
            undone(x, 8);
            Check.same("the copy", x.revisionCount(), 5);
            x.edit(0, 0, 'q');
            Check.same("undo", x.undo(), 0);
            Check.same("back to the copy", x.letterAt(0, 0), 'b');
        });
        s.state("there is no saved copy", () -> {
            Refused.state("new", LetterRepository::new, x -> x.restore());
            Refused.state("changed", Stores::plain, x -> x.restore());
            Refused.state("seven revisions", Stores::unmarked, x -> x.restore());
            Refused.state("undone", () -> undone(Stores.plain(), 1), x -> x.restore());
            Refused.state("twelve changes", () -> {
                LetterRepository x = new LetterRepository();
                for (int i = 0; i < 12; i++) {
                    x.edit(0, i % 8, (char) ('b' + i));
                }
                return x;
            }, x -> x.restore(), x -> x.restore());
        });
    }
}
