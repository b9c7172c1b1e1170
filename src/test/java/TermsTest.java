/** The sentences of the document's terms, but for those of commands (GrammarTest), and for UnchangedTest's. */
final class TermsTest {
    private static final Sentences TERMS = Sentences.of("Terms");

    private TermsTest() {
    }

    static void all() {
        Sentences.of("What it is").test("An object is used for at most 512 calls after it has been made; what later "
                + "calls answer is free.", TermsTest::lastCalls);
        TERMS.test("A merge keeps the changes of both sides, or reports the conflict.", TermsTest::mergeOrConflict);
        documentsAndRevisions();
        branches();
        mergingAndPicking();
        tagsAndArchive();
        undo();
        TERMS.test("If several conditions of a method apply, the exception that is listed first is thrown.",
                TermsTest::listedFirst);
    }

    private static void documentsAndRevisions() {
        TERMS.test("A document has 8 fields, numbered from 0 to 7.", TermsTest::eightFields);
        TERMS.test("Each field contains a letter from a to z.", TermsTest::eachLetter);
        TERMS.test("At most 24 revisions exist, numbered from 0 in the order in which they were made.",
                TermsTest::atMost24);
        TERMS.test("Revision 0 is the root: it has no parent and the author 0, and its document contains the letter a "
                + "in all fields.", TermsTest::root);
        TERMS.test("Every other revision has a first parent, perhaps a second parent, an author from 0 to 9, and a "
                + "document.", TermsTest::otherRevisions);
        TERMS.test("The ancestors of a revision are the revision itself, its parents, and all ancestors of its "
                + "parents.", TermsTest::ancestors);
        TERMS.test("The generation of a revision is 0 for the root, and otherwise 1 plus the greatest generation of "
                + "its parents.", TermsTest::generations);
        TERMS.test("The common ancestor of two revisions is the one with the greatest number among all revisions that "
                + "are ancestors of both.", TermsTest::commonAncestors);
    }

    private static void branches() {
        TERMS.test("There are 1 to 5 branches, numbered from 0.", TermsTest::oneToFive);
        TERMS.test("A branch has a head, which is a revision, and a working document.", TermsTest::headAndWorking);
        TERMS.test("Initially there is the branch 0, its head is the root, and its working document is that of the "
                + "root.", TermsTest::initially);
        TERMS.test("When a branch is created, its working document is the document of its head.", TermsTest::created);
        TERMS.test("When a branch is closed, the numbers of the later branches decrease by 1.", TermsTest::closed);
        TERMS.test("A field of a branch is edited if its letter in the working document differs from that in the "
                + "document of the head.", TermsTest::edited);
    }

    private static void mergingAndPicking() {
        TERMS.test("When the head of another branch is merged into a branch, let the base be the document of the "
                + "common ancestor of both heads, and let ours and theirs be the documents of the heads of the branch "
                + "and of the other one.", TermsTest::base);
        TERMS.test("Each field gets a letter by the first of these rules that applies: if ours and theirs are equal, "
                + "this letter; if ours is equal to the base, the letter of theirs; if theirs is equal to the base, "
                + "the letter of ours; otherwise the field is a conflict.", TermsTest::rules);
        TERMS.test("A merge makes a new revision, whose first parent is the head of the branch and whose second parent "
                + "is the head of the other branch; it becomes the head of the branch, and its document becomes the "
                + "working document.", TermsTest::mergeRevision);
        TERMS.test("The change of a revision consists of the fields in which its document differs from that of its "
                + "first parent.", TermsTest::changeOfRevision);
        TERMS.test("When a revision is picked into a branch, each of these fields gets its letter in the revision, in "
                + "the working document only.", TermsTest::picked);
        TERMS.test("A field of the change blocks the picking if its letter in the working document is equal neither to "
                + "that in the first parent nor to that in the revision.", TermsTest::blocks);
    }

    private static void tagsAndArchive() {
        TERMS.test("A tag is a capital letter from A to Z that belongs to one revision.", TermsTest::tags);
        TERMS.test("A revision is in use if it is an ancestor of the head of a branch or of a tagged revision.",
                TermsTest::inUse);
        TERMS.test("When the store is archived, all revisions that are not in use become archived.",
                TermsTest::archiving);
        TERMS.test("Archived revisions stay archived; they can still be asked for, but a branch, a tag or a picking "
                + "cannot begin with them.", TermsTest::archived);
    }

    private static void undo() {
        TERMS.test("The calls of the methods to which commands correspond, and of run, that return normally are "
                + "changes, even if they have no effect.", TermsTest::changes);
        TERMS.test("Up to 8 changes can be undone, the latest change first.", TermsTest::eightUndone);
        TERMS.test("Undo does not affect the input buffer, the error position, the index of the failed command, the "
                + "formatted line, or the saved copy.", TermsTest::undoLeaves);
    }

    private static void lastCalls() {
        LetterRepository edited = new LetterRepository();
        for (int i = 1; i < 512; i++) {
            edited.edit(0, i % 8, (char) ('b' + i % 25));
        }
        Check.same("call 512", edited.letterAt(0, 511 % 8), (char) ('b' + 511 % 25));
        LetterRepository undone = new LetterRepository();
        for (int i = 1; i <= 503; i++) {
            undone.edit(0, 0, (char) ('a' + i % 26));
        }
        for (int i = 7; i >= 0; i--) {
            Check.same("undo", undone.undo(), i);
        }
        Check.same("call 512", undone.letterAt(0, 0), (char) ('a' + 495 % 26));
        LetterRepository saved = Stores.small();
        for (int made = 36; made < 512; made += 2) {
            Check.same("save", saved.save(), 6);
            Check.same("restore", saved.restore(), 6);
        }
        LetterRepository typed = new LetterRepository();
        for (int i = 0; i < 8; i++) {
            int commands = Check.run(typed, "edit 00b;revert 0;branch 0;close 1;tag A 0;untag A;archive");
            Check.same("run", commands, 7);
        }
        Check.same("undoableCount", typed.undoableCount(), 8);
    }

    private static void mergeOrConflict() {
        LetterRepository x = Stores.sides("aaaaaaaa", "baaaaaaa", "aaaaaaac");
        Check.same("no conflict", x.conflictCount(0, 1), 0);
        Check.same("merge", x.merge(0, 1), 3);
        Check.same("both changes", Check.branch(x, 0), "b0:3 baaaaaac");
        Refused.Recipe conflict = () -> Stores.sides("aaaaaaaa", "baaaaaab", "aaaaaaac");
        Check.same("one conflict", conflict.make().conflictCount(0, 1), 1);
        Refused.state("merge", conflict, y -> y.merge(0, 1), y -> y.merge(1, 0));
    }

    private static void eightFields() {
        for (int field = 0; field < 8; field++) {
            LetterRepository x = new LetterRepository();
            x.edit(0, field, 'b');
            x.commit(0, 1);
            for (int other = 0; other < 8; other++) {
                Check.same("letterAt " + other, x.letterAt(0, other), other == field ? 'b' : 'a');
                Check.same("letterIn " + other, x.letterIn(1, other), other == field ? 'b' : 'a');
            }
        }
        Refused.index("field 8", Stores::small, x -> x.edit(0, 8, 'b'), x -> x.letterAt(0, 8), x -> x.letterIn(0, 8));
        Refused.index("field -1", Stores::small, x -> x.edit(0, -1, 'b'), x -> x.letterIn(0, -1));
    }

    private static void eachLetter() {
        for (char letter = 'a'; letter <= 'z'; letter++) {
            LetterRepository x = new LetterRepository();
            x.edit(0, 3, letter);
            Check.same("letterAt", x.letterAt(0, 3), letter);
            if (letter != 'a') {
                Check.same("letterIn", x.letterIn(x.commit(0, 1), 3), letter);
            }
        }
        Refused.characters("edit", IllegalArgumentException.class, Stores::small, c -> c >= 'a' && c <= 'z',
                (x, c) -> x.edit(0, 3, c));
    }

    private static void atMost24() {
        LetterRepository x = new LetterRepository();
        for (int r = 1; r <= 23; r++) {
            Check.same("revisionCount", x.revisionCount(), r);
            x.edit(0, 0, (char) ('a' + r));
            Check.same("commit", x.commit(0, 0), r);
            Check.same("its letter", x.letterIn(r, 0), (char) ('a' + r));
        }
        Check.same("revisionCount", x.revisionCount(), 24);
        Check.same("a merge is numbered too", Stores.revisions(23).merge(0, 1), 23);
        Refused.state("25th revision", Stores::full, y -> y.commit(2, 0), y -> y.merge(0, 1), y -> y.merge(1, 0),
                y -> y.mergeKeeping(0, 1, true));
        Refused.element("revisions 24 and -1", Stores::full, y -> y.authorOf(24), y -> y.authorOf(-1));
        Refused.element("revision 23 of 23", () -> Stores.revisions(23), y -> y.authorOf(23));
    }

    private static void root() {
        LetterRepository x = Stores.full();
        Check.same("author", x.authorOf(0), 0);
        for (int field = 0; field < 8; field++) {
            Check.same("letter", x.letterIn(0, field), 'a');
        }
        Refused.element("a parent of the root", Stores::small, y -> y.firstParent(0), y -> y.secondParent(0));
        Refused.element("a parent of the only root", Stores::plain, y -> y.firstParent(0), y -> y.secondParent(0));
    }

    private static void otherRevisions() {
        LetterRepository x = Stores.crossed();
        int[] firsts = {0, 0, 1, 2};
        for (int r = 1; r <= 4; r++) {
            Check.same("firstParent", x.firstParent(r), firsts[r - 1]);
        }
        Check.same("secondParent", x.secondParent(3), 2);
        Check.same("secondParent", x.secondParent(4), 1);
        Refused.element("no second parent", Stores::crossed, y -> y.secondParent(1), y -> y.secondParent(2));
        LetterRepository authors = new LetterRepository();
        for (int author = 0; author <= 9; author++) {
            authors.edit(0, 0, (char) ('b' + author));
            Check.same("author", authors.authorOf(authors.commit(0, author)), author);
        }
        Refused.argument("authors 10 and -1", Stores::plain, y -> y.commit(0, 10), y -> y.commit(0, -1));
    }

    private static void ancestors() {
        LetterRepository x = Stores.small();
        String[] due = {"0", "01", "02", "0123", "01234", "05"};
        for (int second = 0; second < due.length; second++) {
            StringBuilder found = new StringBuilder();
            for (int first = 0; first < due.length; first++) {
                found.append(x.isAncestor(first, second) ? String.valueOf(first) : "");
            }
            Check.same("ancestors of " + second, found.toString(), due[second]);
            Check.same("their number", x.ancestorCount(second), due[second].length());
        }
        LetterRepository merges = Stores.mergesIntoRoot();
        for (int r = 0; r < 24; r++) {
            Check.same("by second parents", merges.isAncestor(r, 23), true);
            Check.same("their number", merges.ancestorCount(r), r + 1);
        }
        LetterRepository chain = Check.full();
        for (int r = 0; r < 24; r++) {
            Check.same("on a chain", chain.isAncestor(r, 23), true);
            Check.same("the other way", chain.isAncestor(23, r), r == 23);
            Check.same("ancestorCount", chain.ancestorCount(r), r + 1);
        }
    }

    private static void generations() {
        LetterRepository chain = Check.full();
        for (int r = 0; r < 24; r++) {
            Check.same("on a chain", chain.generation(r), r);
        }
        LetterRepository merges = Stores.mergesIntoRoot();
        for (int r = 0; r < 24; r++) {
            Check.same("by second parents", merges.generation(r), r);
        }
        Check.same("equal parents", Stores.small().generation(3), 2);
        LetterRepository x = Stores.revisions(8);
        Check.same("first parent 7, of generation 6", x.generation(x.merge(0, 1)), 7);
        x.undo();
        Check.same("second parent 7", x.generation(x.merge(1, 0)), 7);
        Check.same("a commit behind it", x.edit(1, 0, 'z') + x.generation(x.commit(1, 1)), 9);
    }

    private static void commonAncestors() {
        Check.same("crossed merges", Stores.crossed().commonAncestor(3, 4), 2);
        Refused.Recipe[] recipes = {Stores::small, Stores::crossed, Stores::skewed, Stores::five,
            () -> Stores.revisions(9)};
        for (Refused.Recipe recipe : recipes) {
            int count = recipe.make().revisionCount();
            for (int first = 0; first < count; first++) {
                for (int second = 0; second < count; second++) {
                    LetterRepository x = recipe.make();
                    int greatest = 0;
                    for (int r = 0; r < count; r++) {
                        greatest = x.isAncestor(r, first) && x.isAncestor(r, second) ? r : greatest;
                    }
                    Check.same("of " + first + " and " + second, x.commonAncestor(first, second), greatest);
                    Check.same("by sets", x.commonAncestorBySets(first, second), greatest);
                }
            }
        }
    }

    private static void oneToFive() {
        LetterRepository x = new LetterRepository();
        for (int count = 1; count < 5; count++) {
            Check.same("branchCount", x.branchCount(), count);
            Check.same("createBranch", x.createBranch(0), count);
        }
        Check.same("branchCount", x.branchCount(), 5);
        for (int count = 4; count >= 1; count--) {
            Check.same("closeBranch", x.closeBranch(count), count);
        }
        Refused.state("sixth branch", Stores::five, y -> y.createBranch(0));
        Refused.state("close the only branch", Stores::single, y -> y.closeBranch(0));
        Refused.index("branches 5 and -1", Stores::five, y -> y.head(5), y -> y.head(-1));
    }

    private static void headAndWorking() {
        LetterRepository x = Stores.five();
        int[] heads = {2, 1, 0, 3, 0};
        for (int b = 0; b < 5; b++) {
            Check.same("head", x.head(b), heads[b]);
            x.edit(b, 7, (char) ('p' + b));
        }
        for (int b = 0; b < 5; b++) {
            Check.same("its own working document", x.letterAt(b, 7), (char) ('p' + b));
            Check.same("the heads stay", x.head(b), heads[b]);
        }
    }

    private static void initially() {
        LetterRepository x = new LetterRepository();
        Check.same("branchCount", x.branchCount(), 1);
        Check.same("head", x.head(0), 0);
        Check.same("working document", Check.branch(x, 0), "b0:0 aaaaaaaa");
        Check.index("branch 1", () -> x.head(1));
    }

    private static void created() {
        LetterRepository x = Stores.small();
        Check.same("createBranch", x.createBranch(5), 4);
        Check.same("branch", Check.branch(x, 4), "b4:5 xaaaaaaw");
        x.closeBranch(4);
        Check.same("edits of another branch do not count", x.createBranch(x.head(3)), 4);
        Check.same("branch", Check.branch(x, 4), "b4:0 aaaaaaaa");
        x.edit(4, 4, 'e');
        x.closeBranch(4);
        Check.same("nor do those of a closed one", x.createBranch(0), 4);
        Check.same("branch", Check.branch(x, 4), "b4:0 aaaaaaaa");
    }

    private static void closed() {
        String[] branches = {"2 bcaaaaaa", "1 baaaaaaa", "0 aaaaaaaa", "3 bdaaaaaa", "0 aaaaaaaZ"};
        for (int closed = 0; closed < 5; closed++) {
            LetterRepository x = Stores.five();
            x.edit(4, 7, 'z');
            Check.same("closeBranch", x.closeBranch(closed), 4);
            for (int b = 0; b < 4; b++) {
                Check.same("without " + closed, Check.branch(x, b), "b" + b + ":" + branches[b < closed ? b : b + 1]);
            }
            Check.index("the last one", () -> x.head(4));
        }
    }

    private static void edited() {
        for (int field = 0; field < 8; field++) {
            LetterRepository x = Stores.sides("mmmmmmmm", "mmmmmmmm", "mmmmmmmm");
            Check.same("the head's letter", x.edit(0, field, 'm'), 0);
            Check.same("isEdited", x.isEdited(0, field), false);
            Check.same("the letter before", x.edit(0, field, 'l'), 1);
            Check.same("isEdited", x.isEdited(0, field), true);
            Check.same("the letter behind", x.edit(0, field, 'n'), 1);
            Check.same("the root's letter", x.edit(0, field, 'a'), 1);
            Check.same("back", x.edit(0, field, 'm'), 0);
            Check.same("isEdited", x.isEdited(0, field), false);
            x.edit(0, field, 'n');
            x.commit(0, 1);
            Check.same("committed", x.isEdited(0, field), false);
            Check.same("what was the head's letter", x.edit(0, field, 'm'), 1);
        }
    }

    private static void base() {
        LetterRepository x = Stores.crossed();
        x.edit(0, 0, 'a');
        x.edit(0, 1, 'a');
        x.commit(0, 3);
        Check.same("the base is revision 2, acaaaaaa", Check.merged(x, 0, 1), "baaaaaaa");
        Check.same("the other way", Check.merged(x, 1, 0), "baaaaaaa");
        x.edit(0, 0, 'q');
        x.edit(1, 5, 'r');
        Check.same("the documents of the heads", Check.merged(x, 0, 1), "baaaaaaa");
        Check.same("an ancestor as the other head", Check.merged(x, 0, 2), "aaaaaaaa");
        Check.same("an ancestor as the head", Check.merged(x, 2, 0), "aaaaaaaa");
        LetterRepository skewed = Stores.skewed();
        Check.same("the base is revision 3, aadaaaaa", Check.merged(skewed, 0, 1), "?cdaaaaa");
        Check.same("the other way", Check.merged(skewed, 1, 0), "?cdaaaaa");
        Check.same("the conflict", skewed.conflictAt(0, 1, 0), 0);
        Refused.state("merge", Stores::skewed, y -> y.merge(0, 1), y -> y.merge(1, 0));
        Check.same("isConsistent", skewed.isConsistent(), true);
    }

    private static String turned(String text, int by) {
        return text.substring(by) + text.substring(0, by);
    }

    private static void rules() {
        for (int by = 0; by < 8; by++) {
            LetterRepository x = Stores.sides(turned("mmmmmmmm", by), turned("mpmrsama", by), turned("mpqmtmaz", by));
            String due = turned("mpqr?aa?", by);
            Check.same("ours and theirs", Check.merged(x, 0, 1), due);
            Check.same("theirs and ours", Check.merged(x, 1, 0), due);
            Check.same("conflicts", x.conflictCount(0, 1), 2);
            int made = x.mergeKeeping(0, 1, true);
            Check.same("keeping ours", Check.revision(x, made).substring(3, 11), turned("mpqrsaaa", by));
            x.undo();
            made = x.mergeKeeping(0, 1, false);
            Check.same("keeping theirs", Check.revision(x, made).substring(3, 11), turned("mpqrtaaz", by));
        }
    }

    private static void mergeRevision() {
        LetterRepository x = Stores.small();
        Check.same("merge", x.merge(1, 2), 6);
        Check.same("firstParent", x.firstParent(6), 2);
        Check.same("secondParent", x.secondParent(6), 5);
        Check.same("branch", Check.branch(x, 1), "b1:6 xcaaaaaw");
        Check.same("the other branch stays", Check.branch(x, 2), "b2:5 xaaaaaaw");
        Check.same("mergeKeeping", x.mergeKeeping(2, 1, false), 7);
        Check.same("revision", Check.revision(x, 7), "r7 xcaaaaaw @4 <5+6");
        Check.same("branch", Check.branch(x, 2), "b2:7 xcaaaaaw");
    }

    private static void changeOfRevision() {
        LetterRepository x = Stores.small();
        Check.same("a merge, against its first parent", x.pick(3, 3), 1);
        Check.same("branch", Check.branch(x, 3), "b3:0 aCaaaaaZ");
        LetterRepository back = Stores.sides("mmmmmmmm", "mmmmmmmm", "mmamqmmm");
        Check.same("a letter that the root has", back.pick(0, 2), 2);
        Check.same("branch", Check.branch(back, 0), "b0:1 mmAmQmmm");
        LetterRepository all = Stores.sides("mmmmmmmm", "mmmmmmmm", "abcdefgh");
        Check.same("all fields", all.pick(0, 2), 8);
        Check.same("branch", Check.branch(all, 0), "b0:1 ABCDEFGH");
        LetterRepository one = Stores.sides("aaaaaaaa", "bbaaaaaa", "abaaaaaa");
        Check.same("merge", one.mergeKeeping(1, 0, true), 3);
        Check.same("a branch at the root", one.createBranch(0), 2);
        Check.same("a change of one field", one.pick(2, 3), 1);
        Check.same("branch", Check.branch(one, 2), "b2:0 Baaaaaaa");
        LetterRepository none = Stores.sides("mmmmmmmm", "nmmmmmmm", "nmmmmmmm");
        Check.same("merge", none.merge(0, 1), 4);
        Check.same("a branch at the root", none.createBranch(0), 2);
        Check.same("an empty change, which nothing blocks", none.canPick(2, 4), true);
        Check.same("an empty change", none.pick(2, 4), 0);
        Check.same("branch", Check.branch(none, 2), "b2:0 aaaaaaaa");
    }

    private static void picked() {
        LetterRepository x = Stores.small();
        Check.same("pick", x.pick(1, 5), 2);
        Check.same("branch", Check.branch(x, 1), "b1:2 XcaaaaaW");
        Check.same("no revision", x.revisionCount(), 6);
        Check.same("head", x.head(1), 2);
        Check.same("its document", Check.revision(x, 2), "r2 acaaaaaa @2 <0");
        Check.same("nothing else is picked", x.pick(0, 2), 0);
    }

    private static void blocks() {
        for (int f = 0; f < 8; f++) {
            int field = f;
            Refused.Recipe recipe = () -> {
                LetterRepository x = Stores.sides("mmmmmmmm", "nnnnnnnn", "mmmmmmmm");
                x.edit(1, field, 'a');
                return x;
            };
            Refused.state("picking with one field in the way", recipe, x -> x.pick(1, 2));
            LetterRepository x = recipe.make();
            x.edit(1, field, 'm');
            Check.same("the first parent's letter", x.canPick(1, 2), true);
            x.edit(1, field, 'n');
            Check.same("the revision's letter", x.canPick(1, 2), true);
            Check.same("pick", x.pick(1, 2), 7);
            x.edit(1, field, 'o');
            Check.same("another letter", x.canPick(1, 2), false);
            LetterRepository free = Stores.sides("mmmmmmmm", "nnnnnnnn".substring(0, field) + "m"
                    + "nnnnnnnn".substring(field + 1), "mmmmmmmm");
            free.edit(1, field, 'a');
            Check.same("a field that is not of the change", free.pick(1, 2), 7);
        }
    }

    private static void tags() {
        for (char tag = 'A'; tag <= 'Z'; tag++) {
            LetterRepository x = Stores.revisions(5);
            Check.same("addTag", x.addTag(tag, 4), 1);
            Check.same("taggedRevision", x.taggedRevision(tag), 4);
            Check.same("tagOf", x.tagOf(4), tag);
            Check.same("another one", x.addTag(tag == 'Z' ? 'A' : (char) (tag + 1), 4), 2);
        }
        Refused.state("a tag of two revisions", Stores::small, x -> x.addTag('A', 2), x -> x.addTag('A', 1));
        Refused.argument("tags beside A and Z", Stores::small, x -> x.addTag('@', 1), x -> x.addTag('[', 1));
    }

    private static void inUse() {
        LetterRepository x = Stores.small();
        Check.same("all but revision 4", x.usedCount(), 5);
        x.reset(2, 0);
        Check.same("5 is no head", x.usedCount(), 4);
        x.addTag('Z', 5);
        Check.same("5 is tagged", x.usedCount(), 5);
        x.removeTag('Z');
        x.reset(0, 0);
        Check.same("3 is tagged", x.usedCount(), 4);
        x.removeTag('M');
        Check.same("1 is tagged, 2 is a head", x.usedCount(), 3);
        x.closeBranch(1);
        Check.same("1 is tagged", x.usedCount(), 2);
        x.removeTag('A');
        Check.same("the root is in use always", x.usedCount(), 1);
    }

    private static void archiving() {
        LetterRepository x = Stores.small();
        Check.same("all others are in use", x.archive(), 0);
        x.reset(2, 0);
        Check.same("one more", x.archive(), 1);
        Check.same("5", x.isArchived(5), true);
        x.reset(0, 0);
        x.removeTag('M');
        Check.same("the merge", x.archive(), 1);
        Check.same("3", x.isArchived(3), true);
        Check.same("1 is tagged", x.isArchived(1), false);
        Check.same("2 is a head", x.isArchived(2), false);
        Check.same("the root", x.isArchived(0), false);
    }

    private static void archived() {
        LetterRepository x = Stores.small();
        x.edit(2, 3, 'e');
        x.commit(2, 1);
        Check.same("archive again", x.archive(), 0);
        Check.same("stays", x.isArchived(4), true);
        Check.same("the others", x.isArchived(6), false);
        Check.same("revision", Check.revision(x, 4), "r4 bcdaaaaa @9 <3 !");
        Check.same("generation", x.generation(4), 3);
        Check.same("letterIn", x.letterIn(4, 2), 'd');
        Check.same("ancestorCount", x.ancestorCount(4), 5);
        Check.same("isAncestor", x.isAncestor(3, 4), true);
        Check.same("commonAncestor", x.commonAncestor(4, 6), 0);
        Check.same("commonAncestorBySets", x.commonAncestorBySets(4, 3), 3);
        Check.same("distance", x.distance(4, 5), 4);
        Check.same("differences", x.differences(4, 0), 3);
        Check.same("originOf", x.originOf(4, 2), 4);
        Check.same("revisionsBy", x.revisionsBy(9), 1);
        Refused.element("an archived revision", Stores::small, y -> y.createBranch(4), y -> y.addTag('B', 4),
                y -> y.pick(0, 4), y -> y.pick(3, 4), y -> y.reset(0, 4));
        Check.same("one that is not archived", Stores.small().createBranch(5), 4);
    }

    private static void changes() {
        LetterRepository x = Stores.five();
        for (int i = 0; i < 8; i++) {
            x.undo();
        }
        changes(x, () -> x.edit(0, 0, x.letterAt(0, 0)));
        changes(x, () -> x.revert(0));
        changes(x, () -> x.reset(0, x.head(0)));
        changes(x, () -> x.pick(0, 1));
        changes(x, () -> x.archive());
        changes(x, () -> Check.run(x, "vert 0"));
        LetterRepository y = Stores.five();
        for (int i = 0; i < 8; i++) {
            y.undo();
        }
        Check.same("undoableCount", y.undoableCount(), 0);
        noChanges(y);
    }

    private static void changes(LetterRepository x, Check.Body call) {
        int before = x.undoableCount();
        call.run();
        Check.same("a change without effect", x.undoableCount(), before + 1);
    }

    private static void noChanges(LetterRepository x) {
        x.save();
        x.append('a');
        x.formatBranch(0);
        x.isConsistent();
        x.canMerge(0, 1);
        x.canPick(0, 1);
        Check.index("refused", () -> x.edit(9, 0, 'a'));
        Check.argument("malformed", () -> x.run());
        Check.state("fails", () -> Check.run(x, "archive;close 9"));
        Check.same("undoableCount", x.undoableCount(), 0);
    }

    private static void eightUndone() {
        for (int changes = 0; changes <= 20; changes++) {
            LetterRepository x = new LetterRepository();
            for (int i = 1; i <= changes; i++) {
                x.edit(0, 0, (char) ('a' + i));
            }
            int most = Math.min(changes, 8);
            Check.same("undoableCount after " + changes, x.undoableCount(), most);
            for (int i = 1; i <= most; i++) {
                Check.same("undo", x.undo(), most - i);
                Check.same("letter", x.letterAt(0, 0), (char) ('a' + changes - i));
            }
            Check.state("one more", () -> x.undo());
            Check.same("letter", x.letterAt(0, 0), (char) ('a' + changes - most));
        }
    }

    private static void undoLeaves() {
        LetterRepository x = Stores.small();
        String line = Refused.line(x);
        for (int i = 0; i < 8; i++) {
            x.undo();
            Check.same("line", Refused.line(x), line);
            Check.same("errorPosition", x.errorPosition(), 3);
            Check.same("failedCommand", x.failedCommand(), 0);
        }
        Check.type(x, "vert 0");
        Check.same("the buffer is re and vert 0", x.run(), 1);
        x.undo();
        Check.same("the saved copy", x.restore(), 5);
        Check.same("its tags", x.taggedRevision('A'), 1);
        Check.same("its branches", x.branchCount(), 3);
        LetterRepository empty = new LetterRepository();
        empty.edit(0, 0, 'b');
        empty.undo();
        Check.state("no saved copy", () -> empty.restore());
        Check.element("no error position", () -> empty.errorPosition());
        Check.element("no failed command", () -> empty.failedCommand());
        Check.index("an empty line", () -> empty.lineChar(0));
        Check.same("an empty buffer", empty.append('a'), 1);
    }

    private static void listedFirst() {
        Refused.index("index before all", Stores::small, x -> x.edit(4, 0, 'A'), x -> x.edit(0, 8, '{'),
                x -> x.commit(4, 10), x -> x.merge(4, 4), x -> x.merge(-1, -1), x -> x.mergeKeeping(4, 4, true),
                x -> x.pick(4, 6), x -> x.pick(4, 0), x -> x.pick(4, 4), x -> x.reset(4, 6), x -> x.reset(-1, 4),
                x -> x.conflictCount(4, 4), x -> x.conflictAt(4, 4, -1), x -> x.conflictAt(0, 4, 9),
                x -> x.canMerge(4, 4), x -> x.mergedLetter(4, 4, 0), x -> x.mergedLetter(0, 0, 8),
                x -> x.mergedLetter(0, 0, -1), x -> x.mergedLetter(0, 2, 8), x -> x.canPick(4, 6),
                x -> x.formatMerge(4, 4));
        Refused.index("index before state", Stores::single, x -> x.closeBranch(1), x -> x.closeBranch(-1));
        Refused.index("index before state", Stores::full, x -> x.commit(3, 0), x -> x.merge(0, 3), x -> x.merge(3, 0));
        Refused.argument("argument before element and state", Stores::small, x -> x.commit(0, 10),
                x -> x.merge(3, 3), x -> x.mergeKeeping(3, 3, true), x -> x.addTag('a', 6), x -> x.addTag('[', 4),
                x -> x.conflictAt(0, 0, -1), x -> x.mergedLetter(0, 0, 0));
        Refused.argument("argument before state", Stores::full, x -> x.commit(2, 10), x -> x.merge(0, 0),
                x -> x.mergeKeeping(1, 1, true));
        Refused.element("element before index", Stores::small, x -> x.letterIn(6, 8), x -> x.letterIn(-1, -1),
                x -> x.originOf(6, 8), x -> x.originByRecursion(6, -1));
        Refused.element("element before state", Stores::small, x -> x.reset(3, 4), x -> x.reset(3, 6),
                x -> x.addTag('A', 4), x -> x.addTag('A', 6));
        Refused.element("element before state", Stores::five, x -> x.createBranch(4), x -> x.createBranch(5));
        Refused.element("an archived revision that is blocked too", () -> {
            LetterRepository x = Stores.small();
            x.edit(1, 2, 'q');
            return x;
        }, x -> x.pick(1, 4));
    }
}
