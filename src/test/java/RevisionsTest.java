/** Promises 14 to 30: questions about revisions and authors. */
final class RevisionsTest {
    private RevisionsTest() {
    }

    static void all() {
        Check.test("promise 14", RevisionsTest::revisionCount);
        Sentences.promise(15).test("Returns whether a revision is archived.", RevisionsTest::isArchived);
        Sentences.promise(16).test("Returns the first parent of a revision.", RevisionsTest::parents);
        Sentences.promise(17).test("Returns the second parent of a revision.", RevisionsTest::parents);
        Sentences.promise(18).test("Returns the author of a revision.", RevisionsTest::authorOf);
        Sentences.promise(19).test("Returns the generation of a revision.", RevisionsTest::generation);
        Sentences.promise(20).test("Returns the letter in a field of the document of a revision.",
                RevisionsTest::letterIn);
        Sentences.promise(21).test("Returns whether a revision is an ancestor of another one.",
                RevisionsTest::isAncestor);
        Check.test("promise 22", RevisionsTest::ancestorCount);
        Check.test("promises 23 and 24", RevisionsTest::commonAncestor);
        Check.test("promise 23 with two latest common ancestors", RevisionsTest::crossedMerges);
        Check.test("promise 25", RevisionsTest::distance);
        Check.test("promise 26", RevisionsTest::differences);
        Check.test("promises 27 and 28", RevisionsTest::origins);
        Check.test("promises 22 to 28 on the longest chain", RevisionsTest::longestChain);
        Sentences.promise(29).test("Returns the number of revisions of an author.", RevisionsTest::revisionsBy);
        Check.test("promise 30", RevisionsTest::busiestAuthor);
    }

    /** 0 - 1 - 2, 0 - 3, and 4, which merges 3 into 2; branch 0 has the head 4, branch 1 the head 3. */
    private static LetterRepository merged() {
        LetterRepository x = Check.after("edit 00b;commit 0 1;edit 01c;commit 0 2;branch 0;edit 12d");
        Check.run(x, "commit 1 3;merge 01");
        Check.same("the merge", Check.revision(x, 4), "r4 bcdaaaaa @3 <2+3");
        return x;
    }

    private static void revisionCount() {
        LetterRepository x = new LetterRepository();
        Check.same("revisionCount", x.revisionCount(), 1);
        Check.run(x, "edit 00b;commit 0 1;reset 0 0;archive");
        Check.same("archived ones count", x.revisionCount(), 2);
        Check.same("merged", merged().revisionCount(), 5);
    }

    private static void isArchived() {
        LetterRepository x = Check.after("edit 00b;commit 0 1;reset 0 0");
        Check.same("not yet", x.isArchived(1), false);
        x.archive();
        Check.same("archived", x.isArchived(1), true);
        Check.same("root", x.isArchived(0), false);
        Check.element("no revision", () -> x.isArchived(2));
        Check.element("no revision", () -> x.isArchived(-1));
        Check.same("stays", Check.run(x, "edit 00c;commit 0 1;archive"), 3);
        Check.same("archived", x.isArchived(1), true);
        Check.same("new one", x.isArchived(2), false);
    }

    private static void parents() {
        LetterRepository x = merged();
        Check.same("firstParent", x.firstParent(1), 0);
        Check.same("firstParent", x.firstParent(3), 0);
        Check.same("firstParent", x.firstParent(4), 2);
        Check.same("secondParent", x.secondParent(4), 3);
        Check.element("first of the root", () -> x.firstParent(0));
        Check.element("first of none", () -> x.firstParent(5));
        Check.element("first of none", () -> x.firstParent(-1));
        Check.element("second of the root", () -> x.secondParent(0));
        Check.element("second of a commit", () -> x.secondParent(3));
        Check.element("second of none", () -> x.secondParent(5));
        Check.element("second of none", () -> x.secondParent(Integer.MIN_VALUE));
    }

    private static void authorOf() {
        LetterRepository x = merged();
        Check.same("root", x.authorOf(0), 0);
        Check.same("commit", x.authorOf(2), 2);
        Check.same("merge", x.authorOf(4), 3);
        Check.element("no revision", () -> x.authorOf(5));
        Check.element("no revision", () -> x.authorOf(-1));
    }

    private static void generation() {
        LetterRepository x = merged();
        Check.same("root", x.generation(0), 0);
        Check.same("2", x.generation(2), 2);
        Check.same("3", x.generation(3), 1);
        Check.same("4", x.generation(4), 3);
        Check.run(x, "merge 10");
        Check.same("second parent is greater", x.generation(5), 4);
        Check.element("no revision", () -> x.generation(6));
        Check.element("no revision", () -> x.generation(-1));
    }

    private static void letterIn() {
        LetterRepository x = merged();
        Check.same("root", x.letterIn(0, 0), 'a');
        Check.same("field 2", x.letterIn(4, 2), 'd');
        Check.same("field 7", x.letterIn(4, 7), 'a');
        x.edit(0, 7, 'z');
        Check.same("not the working document", x.letterIn(4, 7), 'a');
        Check.element("no revision, no field", () -> x.letterIn(5, 8));
        Check.element("no revision", () -> x.letterIn(-1, 0));
        Check.index("no field", () -> x.letterIn(4, 8));
        Check.index("no field", () -> x.letterIn(1, -1));
    }

    private static void isAncestor() {
        LetterRepository x = merged();
        Check.same("itself", x.isAncestor(4, 4), true);
        Check.same("second parent", x.isAncestor(3, 4), true);
        Check.same("far", x.isAncestor(0, 4), true);
        Check.same("child", x.isAncestor(4, 3), false);
        Check.same("side", x.isAncestor(2, 3), false);
        Check.same("side", x.isAncestor(1, 3), false);
        Check.element("no first", () -> x.isAncestor(5, 0));
        Check.element("no second", () -> x.isAncestor(0, 5));
        Check.element("negative", () -> x.isAncestor(-1, 0));
        Check.element("negative", () -> x.isAncestor(0, -1));
    }

    private static void ancestorCount() {
        LetterRepository x = merged();
        Check.same("root", x.ancestorCount(0), 1);
        Check.same("2", x.ancestorCount(2), 3);
        Check.same("3", x.ancestorCount(3), 2);
        Check.same("4", x.ancestorCount(4), 5);
        Check.element("no revision", () -> x.ancestorCount(5));
        Check.element("no revision", () -> x.ancestorCount(-1));
    }

    private static void common(LetterRepository x, int first, int second, int due) {
        Check.same("commonAncestor " + first + " " + second, x.commonAncestor(first, second), due);
        Check.same("commonAncestor " + second + " " + first, x.commonAncestor(second, first), due);
        Check.same("bySets " + first + " " + second, x.commonAncestorBySets(first, second), due);
        Check.same("bySets " + second + " " + first, x.commonAncestorBySets(second, first), due);
    }

    private static void commonAncestor() {
        LetterRepository x = merged();
        common(x, 0, 0, 0);
        common(x, 4, 4, 4);
        common(x, 2, 3, 0);
        common(x, 1, 2, 1);
        common(x, 3, 4, 3);
        common(x, 4, 2, 2);
        Check.run(x, "edit 10q;commit 1 1");
        common(x, 5, 4, 3);
        Check.element("no first", () -> x.commonAncestor(6, 0));
        Check.element("no second", () -> x.commonAncestor(0, 6));
        Check.element("negative", () -> x.commonAncestor(0, -1));
        Check.element("no first by sets", () -> x.commonAncestorBySets(6, 0));
        Check.element("no second by sets", () -> x.commonAncestorBySets(0, 6));
        Check.element("negative by sets", () -> x.commonAncestorBySets(-1, 0));
    }

    private static void crossedMerges() {
        LetterRepository x = Check.after("edit 00b;commit 0 1;branch 0;edit 11c;commit 1 2;branch 1");
        Check.run(x, "merge 01;merge 12");
        Check.same("r3", Check.revision(x, 3), "r3 bcaaaaaa @2 <1+2");
        Check.same("r4", Check.revision(x, 4), "r4 bcaaaaaa @1 <2+1");
        common(x, 3, 4, 2);
        LetterRepository skewed = Stores.skewed();
        Check.same("2 has the greater generation", skewed.generation(2), skewed.generation(3) + 1);
        common(skewed, 4, 5, 3);
        common(skewed, 6, 5, 3);
        common(skewed, 6, 2, 2);
    }

    private static void steps(LetterRepository x, int first, int second, int due) {
        Check.same("distance " + first + " " + second, x.distance(first, second), due);
        Check.same("distance " + second + " " + first, x.distance(second, first), due);
    }

    private static void distance() {
        LetterRepository x = merged();
        steps(x, 0, 0, 0);
        steps(x, 4, 4, 0);
        steps(x, 2, 3, 2);
        steps(x, 1, 3, 2);
        steps(x, 0, 4, 2);
        steps(x, 1, 4, 2);
        Check.element("no first", () -> x.distance(5, 0));
        Check.element("no second", () -> x.distance(0, 5));
        Check.element("negative", () -> x.distance(-1, 0));
    }

    private static void differences() {
        LetterRepository x = merged();
        Check.same("0 4", x.differences(0, 4), 3);
        Check.same("4 0", x.differences(4, 0), 3);
        Check.same("2 3", x.differences(2, 3), 3);
        Check.same("1 4", x.differences(1, 4), 2);
        Check.same("4 4", x.differences(4, 4), 0);
        Check.element("no first", () -> x.differences(5, 0));
        Check.element("no second", () -> x.differences(0, -1));
    }

    private static void origin(LetterRepository x, int revision, int field, int due) {
        Check.same("originOf " + revision + " " + field, x.originOf(revision, field), due);
        Check.same("originByRecursion " + revision + " " + field, x.originByRecursion(revision, field), due);
    }

    private static void origins() {
        LetterRepository x = merged();
        origin(x, 4, 0, 1);
        origin(x, 4, 1, 2);
        origin(x, 4, 2, 4);
        origin(x, 4, 3, 0);
        origin(x, 3, 2, 3);
        origin(x, 0, 0, 0);
        Check.run(x, "edit 00a;commit 0 1");
        origin(x, 5, 0, 5);
        origin(x, 5, 7, 0);
        Check.element("no revision, no field", () -> x.originOf(6, 8));
        Check.element("no revision", () -> x.originOf(-1, 0));
        Check.index("no field", () -> x.originOf(5, 8));
        Check.index("no field", () -> x.originOf(5, -1));
        Check.element("no revision, no field", () -> x.originByRecursion(6, -1));
        Check.index("no field", () -> x.originByRecursion(5, 8));
        Check.index("no field", () -> x.originByRecursion(0, -1));
    }

    private static void longestChain() {
        LetterRepository x = new LetterRepository();
        for (int r = 1; r < 24; r++) {
            x.edit(0, 0, r % 2 == 0 ? 'a' : 'b');
            x.commit(0, 1);
        }
        Check.same("generation", x.generation(23), 23);
        Check.same("ancestorCount", x.ancestorCount(23), 24);
        Check.same("usedCount", x.usedCount(), 24);
        Check.same("usedCountByMarks", x.usedCountByMarks(), 24);
        steps(x, 0, 23, 23);
        origin(x, 23, 7, 0);
        origin(x, 23, 0, 23);
        common(x, 23, 11, 11);
        Check.same("line", Check.revision(x, 23), "r23 baaaaaaa @1 <22");
        Check.element("letterIn 24", () -> x.letterIn(24, 0));
    }

    private static void revisionsBy() {
        LetterRepository x = merged();
        Check.same("root", x.revisionsBy(0), 1);
        Check.same("merge counts", x.revisionsBy(3), 2);
        Check.same("none", x.revisionsBy(9), 0);
        Check.argument("10", () -> x.revisionsBy(10));
        Check.argument("-1", () -> x.revisionsBy(-1));
    }

    private static void busiestAuthor() {
        Check.same("root", new LetterRepository().busiestAuthor(), 0);
        LetterRepository x = Check.after("edit 00b;commit 0 9");
        Check.same("a tie", x.busiestAuthor(), 0);
        Check.run(x, "edit 00c;commit 0 9");
        Check.same("most", x.busiestAuthor(), 9);
        Check.run(x, "edit 00d;commit 0 4;edit 00e;commit 0 4");
        Check.same("a tie", x.busiestAuthor(), 4);
        Check.run(x, "reset 0 0;archive");
        Check.same("archived ones count", x.busiestAuthor(), 4);
    }
}
