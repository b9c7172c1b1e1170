/** Each method with each exception that it throws: the store is unchanged. */
final class UnchangedTest {
    private UnchangedTest() {
    }

    static void all() {
        Sentences.of("Terms").test("A method that throws an exception leaves the store unchanged, unless its "
                + "description says otherwise.", () -> {
            refusals(Stores::small);
            refusals(Stores::unmarked);
            inOtherStates();
        });
    }

    /** For stores with four branches as in Stores, less than eight revisions, and the tags A and M. */
    private static void refusals(Refused.Recipe recipe) {
        Refused.index("a change", recipe, x -> x.edit(4, 0, 'b'), x -> x.edit(0, 8, 'b'), x -> x.revert(4),
                x -> x.commit(4, 0), x -> x.closeBranch(4), x -> x.merge(0, 4), x -> x.mergeKeeping(4, 0, true),
                x -> x.pick(4, 1), x -> x.reset(4, 1));
        Refused.index("a question", recipe, x -> x.letterIn(0, 8), x -> x.originOf(0, 8),
                x -> x.originByRecursion(0, 8), x -> x.head(4), x -> x.letterAt(4, 0), x -> x.isEdited(0, 8),
                x -> x.editCount(4), x -> x.conflictCount(4, 0), x -> x.conflictAt(0, 4, 0), x -> x.canMerge(0, 4),
                x -> x.mergedLetter(0, 1, 8), x -> x.canPick(4, 1), x -> x.lineChar(14), x -> x.lineChar(-1));
        Refused.index("a format", recipe, x -> x.formatBranch(4), x -> x.formatMerge(4, 0));
        Refused.argument("a change", recipe, x -> x.edit(0, 0, 'A'), x -> x.commit(3, 10), x -> x.merge(0, 0),
                x -> x.mergeKeeping(1, 1, false), x -> x.addTag('a', 0));
        Refused.argument("a question", recipe, x -> x.revisionsBy(10), x -> x.conflictCount(0, 0),
                x -> x.conflictAt(1, 1, 0), x -> x.canMerge(2, 2), x -> x.mergedLetter(3, 3, 0));
        Refused.argument("a format, append", recipe, x -> x.formatMerge(2, 2), x -> x.append((char) 127));
        Refused.element("a change", recipe, x -> x.createBranch(7), x -> x.pick(0, 7), x -> x.reset(0, 7),
                x -> x.addTag('B', 7), x -> x.removeTag('B'));
        Refused.element("a question about a revision", recipe, x -> x.isArchived(7), x -> x.firstParent(0),
                x -> x.secondParent(1), x -> x.authorOf(7), x -> x.generation(7), x -> x.letterIn(7, 0),
                x -> x.isAncestor(7, 0), x -> x.ancestorCount(7), x -> x.commonAncestor(7, 0),
                x -> x.commonAncestorBySets(0, 7), x -> x.distance(7, 7), x -> x.differences(0, 7),
                x -> x.originOf(7, 0), x -> x.originByRecursion(7, 0));
        Refused.element("another question", recipe, x -> x.branchByHead(4), x -> x.conflictAt(0, 2, 1),
                x -> x.mergedLetter(0, 2, 0), x -> x.canPick(0, 7), x -> x.taggedRevision('B'), x -> x.tagOf(0));
        Refused.element("a format", recipe, x -> x.formatRevision(7));
        Refused.state("a change", recipe, x -> x.commit(0, 1), x -> x.merge(0, 2), x -> x.merge(0, 1),
                x -> x.merge(0, 3), x -> x.mergeKeeping(0, 1, true), x -> x.pick(0, 0), x -> x.reset(3, 1),
                x -> x.addTag('A', 0));
    }

    private static void inOtherStates() {
        Refused.element("no error position alone", () -> allBut("error"), x -> x.errorPosition());
        Refused.element("no failed command alone", () -> allBut("failed"), x -> x.failedCommand());
        Refused.state("no saved copy alone", () -> allBut("saved"), x -> x.restore());
        Refused.element("never stored", Stores::unmarked, x -> x.errorPosition(), x -> x.failedCommand());
        Refused.element("never stored", Stores::plain, x -> x.errorPosition(), x -> x.failedCommand());
        Refused.state("never saved", Stores::unmarked, x -> x.restore());
        Refused.state("never saved", Stores::plain, x -> x.restore());
        Refused.state("no change", UnchangedTest::restored, x -> x.undo());
        Refused.state("new", LetterRepository::new, x -> x.undo(), x -> x.restore(), x -> x.closeBranch(0));
        Refused.state("single", Stores::single, x -> x.closeBranch(0), x -> x.pick(0, 0), x -> x.reset(0, 0));
        Refused.state("single, with a revision that is not in use", UnchangedTest::loose, x -> x.closeBranch(0));
        Refused.state("five", Stores::five, x -> x.createBranch(0));
        Refused.state("five, with a revision that is not in use", () -> {
            LetterRepository x = Stores.unmarked();
            x.createBranch(0);
            x.edit(4, 3, 'e');
            return x;
        }, x -> x.createBranch(0));
        Refused.state("full", Stores::full, x -> x.commit(2, 1), x -> x.merge(0, 1));
        Refused.state("a full buffer", () -> {
            LetterRepository x = Stores.small();
            Check.type(x, "vert 0;archive;archive;archive;archive;archive;branch 0123");
            return x;
        }, x -> x.append('a'));
    }

    /** A saved copy, a line, an input buffer and both stored positions, but for the one that is left out. */
    private static LetterRepository allBut(String leftOut) {
        LetterRepository x = Stores.unmarked();
        if (!leftOut.equals("saved")) {
            x.save();
        }
        if (!leftOut.equals("error")) {
            Check.argument("malformed", () -> Check.run(x, "tagA"));
        }
        if (!leftOut.equals("failed")) {
            Check.state("fails", () -> Check.run(x, "archive;close 9"));
        }
        x.formatBranch(3);
        Check.type(x, "archive");
        x.edit(0, 0, 'v');
        return x;
    }

    /** No change can be undone, and the revision 6 is neither in use nor archived. */
    private static LetterRepository restored() {
        LetterRepository x = Stores.unmarked();
        x.save();
        x.restore();
        return x;
    }

    /** The only branch, and revision 1, neither in use nor archived. */
    private static LetterRepository loose() {
        LetterRepository x = new LetterRepository();
        x.edit(0, 0, 'b');
        x.commit(0, 1);
        x.reset(0, 0);
        x.addTag('A', 0);
        x.edit(0, 7, 'c');
        return x;
    }
}
