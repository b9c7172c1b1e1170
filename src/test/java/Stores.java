/**
 * Stores that many tests begin with. Where nothing else is said, each has a saved copy, a line, an input buffer and
 * both stored positions.
 */
final class Stores {
    private Stores() {
    }

    /**
     * Four branches: 0 with the head 3, 1 with 2, 2 with 5, and 3 with the root, whose field 7 is edited. The revisions
     * are 1 baaaaaaa, 2 acaaaaaa, 3 bcaaaaaa (2 merged into 1), 4 bcdaaaaa (archived), 5 xaaaaaaw.
     */
    static LetterRepository small() {
        return small(true);
    }

    /**
     * The same with a revision 6 more, which is neither in use nor archived; it was never marked: there is neither a
     * saved copy nor a stored position, the line and the buffer are empty.
     */
    static LetterRepository unmarked() {
        LetterRepository x = small(false);
        x.edit(2, 1, 'k');
        x.commit(2, 8);
        x.reset(2, 5);
        return x;
    }

    private static LetterRepository small(boolean isMarked) {
        LetterRepository x = new LetterRepository();
        x.edit(0, 0, 'b');
        x.commit(0, 1);
        x.createBranch(0);
        x.edit(1, 1, 'c');
        x.commit(1, 2);
        x.merge(0, 1);
        x.createBranch(3);
        x.edit(2, 2, 'd');
        x.commit(2, 9);
        x.reset(2, 0);
        x.archive();
        x.addTag('A', 1);
        if (isMarked) {
            mark(x);
        }
        x.edit(2, 0, 'x');
        x.edit(2, 7, 'w');
        x.commit(2, 4);
        x.addTag('M', 3);
        x.createBranch(0);
        x.edit(3, 7, 'z');
        return x;
    }

    /**
     * So many revisions: 1 aaaaaaab is the head of branch 1; the others follow each other in branch 0, which is not
     * edited; branch 2 has the root as its head, and its field 3 is edited.
     */
    static LetterRepository revisions(int count) {
        LetterRepository x = new LetterRepository();
        x.createBranch(0);
        x.createBranch(0);
        x.edit(1, 7, 'b');
        x.commit(1, 7);
        mark(x);
        for (int r = 2; r < count; r++) {
            x.edit(0, r % 7, (char) ('a' + r));
            Check.same("commit", x.commit(0, r % 10), r);
        }
        x.edit(2, 3, 'q');
        return x;
    }

    static LetterRepository full() {
        return revisions(24);
    }

    /** The only branch, edited, with the root as its head, and the archived revision 1. */
    static LetterRepository single() {
        LetterRepository x = new LetterRepository();
        x.edit(0, 0, 'b');
        x.commit(0, 3);
        x.reset(0, 0);
        mark(x);
        x.archive();
        x.edit(0, 0, 'y');
        return x;
    }

    /** Five branches: the heads are 2, 1, 0, 3 and 0; the revisions 2 and 3 both follow 1; 4 is archived. */
    static LetterRepository five() {
        LetterRepository x = new LetterRepository();
        x.edit(0, 0, 'b');
        x.commit(0, 3);
        x.createBranch(1);
        x.createBranch(0);
        x.createBranch(1);
        x.edit(0, 1, 'c');
        x.commit(0, 3);
        x.edit(3, 1, 'd');
        x.commit(3, 5);
        mark(x);
        x.createBranch(0);
        x.edit(4, 5, 'q');
        x.commit(4, 1);
        x.reset(4, 0);
        x.archive();
        return x;
    }

    /** A store that was never marked: neither a saved copy nor a stored position, an empty line and an empty buffer. */
    static LetterRepository plain() {
        LetterRepository x = new LetterRepository();
        x.edit(0, 0, 'b');
        return x;
    }

    /** A base, if it is not the root's document, and two branches with the heads ours (0) and theirs (1). */
    static LetterRepository sides(String base, String ours, String theirs) {
        LetterRepository x = new LetterRepository();
        put(x, 0, base);
        x.createBranch(x.head(0));
        put(x, 0, ours);
        put(x, 1, theirs);
        mark(x);
        return x;
    }

    /** Commits a document to a branch, by the author 0 or 1 as the branch's number, unless its head has it already. */
    static void put(LetterRepository x, int branch, String document) {
        for (int field = 0; field < 8; field++) {
            x.edit(branch, field, document.charAt(field));
        }
        if (x.editCount(branch) > 0) {
            x.commit(branch, branch);
        }
    }

    /**
     * Two merges with the parents 1 and 2, the other way round in each: 3 in branch 0, 4 in branch 1, both bcaaaaaa;
     * 1 baaaaaaa is the head of branch 2, 2 is acaaaaaa.
     */
    static LetterRepository crossed() {
        LetterRepository x = new LetterRepository();
        x.edit(0, 0, 'b');
        x.commit(0, 1);
        x.createBranch(0);
        x.edit(1, 1, 'c');
        x.commit(1, 2);
        x.createBranch(1);
        x.merge(0, 1);
        x.merge(1, 2);
        mark(x);
        return x;
    }

    /**
     * Two merges of 2 bcaaaaaa, of generation 2, and 3 aadaaaaa, of generation 1, the other way round in each: 4 in
     * branch 0, behind which follows its head 6 xcdaaaaa, and 5 in branch 1, its head. So 3 is the common ancestor of
     * the heads, though 2 is one of a greater generation.
     */
    static LetterRepository skewed() {
        LetterRepository x = new LetterRepository();
        put(x, 0, "baaaaaaa");
        put(x, 0, "bcaaaaaa");
        x.createBranch(0);
        put(x, 1, "aadaaaaa");
        x.createBranch(2);
        x.merge(0, 1);
        x.merge(1, 2);
        put(x, 0, "xcdaaaaa");
        mark(x);
        return x;
    }

    /**
     * 24 revisions: 1 baaaaaaa is a commit, and each later one is a merge of the one before it into the root. The heads
     * are 23 and the root.
     */
    static LetterRepository mergesIntoRoot() {
        LetterRepository x = new LetterRepository();
        x.createBranch(0);
        x.edit(0, 0, 'b');
        x.commit(0, 1);
        for (int r = 2; r < 24; r++) {
            int branch = (r + 1) % 2;
            Check.same("merge", x.merge(branch, 1 - branch), r);
            x.reset(1 - branch, 0);
        }
        return x;
    }

    private static void mark(LetterRepository x) {
        x.save();
        Check.argument("malformed", () -> Check.run(x, "tagA"));
        Check.state("fails", () -> Check.run(x, "close 9"));
        x.formatRevision(0);
        Check.type(x, "re");
    }
}
