/** Promises 45 to 53: the store as a whole, and the line. */
final class StoreTest {
    private StoreTest() {
    }

    static void all() {
        Check.test("promises 45 and 46", StoreTest::usedCount);
        Check.test("promise 47", StoreTest::meanGeneration);
        Check.test("promise 48", StoreTest::archivedShare);
        Sentences.promise(49).test("Checks the store: commonAncestor and commonAncestorBySets agree for all pairs of "
                + "heads, originOf and originByRecursion agree for all fields of all heads, usedCount and "
                + "usedCountByMarks agree, and no archived revision is in use.", StoreTest::isConsistent);
        Check.test("promise 50", StoreTest::formatRevision);
        Check.test("promise 51", StoreTest::formatBranch);
        Check.test("promise 52", StoreTest::formatMerge);
        Check.test("promise 53", StoreTest::lineChar);
    }

    private static void used(LetterRepository x, int due) {
        Check.same("usedCount", x.usedCount(), due);
        Check.same("usedCountByMarks", x.usedCountByMarks(), due);
    }

    private static void usedCount() {
        LetterRepository x = new LetterRepository();
        used(x, 1);
        Check.run(x, "edit 00b;commit 0 1;edit 00c;commit 0 2;reset 0 0");
        used(x, 1);
        Check.run(x, "tag B 1");
        used(x, 2);
        Check.run(x, "branch 2");
        used(x, 3);
        Check.run(x, "untag B;edit 01d;commit 0 3;merge 01;close 1");
        used(x, 5);
        Check.run(x, "reset 0 2");
        used(x, 3);
        Check.run(x, "tag Z 3;reset 0 0");
        used(x, 2);
    }

    private static void meanGeneration() {
        LetterRepository x = new LetterRepository();
        Check.same("root", x.meanGeneration(), 0.0);
        Check.run(x, "edit 00b;commit 0 1");
        Check.same("two", x.meanGeneration(), 0.5);
        Check.run(x, "branch 0;edit 11c;commit 1 1");
        Check.same("three", x.meanGeneration(), 2.0 / 3);
        Check.run(x, "merge 01");
        Check.same("four", x.meanGeneration(), 1.0);
        Check.same("longest chain", Check.full().meanGeneration(), 11.5);
    }

    private static void archivedShare() {
        LetterRepository x = Check.after("edit 00b;commit 0 1;edit 00c;commit 0 2;reset 0 0");
        Check.same("none", x.archivedShare(), 0.0f);
        x.archive();
        Check.same("two of three", x.archivedShare(), 2.0f / 3);
        Check.run(x, "edit 00d;commit 0 1");
        Check.same("two of four", x.archivedShare(), 0.5f);
    }

    private static void isConsistent() {
        Check.same("new", new LetterRepository().isConsistent(), true);
        LetterRepository x = Check.after("edit 00b;commit 0 1;branch 0;edit 11c;commit 1 2;branch 1;tag A 2");
        Check.run(x, "merge 01;merge 12;reset 2 0;close 1;archive");
        Check.same("after archive", x.isConsistent(), true);
        Check.same("full", Check.full().isConsistent(), true);
    }

    private static void formatRevision() {
        LetterRepository x = Check.after("edit 00b;commit 0 1;branch 0;edit 11c;commit 1 2;branch 0");
        Check.run(x, "merge 01;reset 0 0;reset 1 0;archive");
        Check.same("length", x.formatRevision(0), 14);
        Check.same("root", Check.revision(x, 0), "r0 aaaaaaaa @0");
        Check.same("commit", Check.revision(x, 1), "r1 baaaaaaa @1 <0 !");
        Check.same("merge", Check.revision(x, 3), "r3 bcaaaaaa @2 <1+2 !");
        Check.element("no revision", () -> x.formatRevision(4));
        Check.element("no revision", () -> x.formatRevision(-1));
        Check.same("the line stays", Check.line(x, 21), "r3 bcaaaaaa @2 <1+2 !");
        LetterRepository full = Check.full();
        Check.same("two digits", Check.revision(full, 11).substring(0, 4), "r11 ");
        Check.same("two digits", Check.revision(full, 12).substring(13), "@2 <11");
    }

    private static void formatBranch() {
        LetterRepository x = Check.after("edit 00b;edit 01c;commit 0 1;edit 00z;edit 07q;branch 1");
        Check.same("length", x.formatBranch(0), 13);
        Check.same("branch 0", Check.branch(x, 0), "b0:1 ZcaaaaaQ");
        Check.same("branch 1", Check.branch(x, 1), "b1:1 bcaaaaaa");
        Check.index("no branch", () -> x.formatBranch(2));
        Check.index("no branch", () -> x.formatBranch(-1));
        Check.same("the line stays", Check.line(x, 13), "b1:1 bcaaaaaa");
        Check.same("two digits", Check.branch(Check.full(), 0).substring(0, 6), "b0:23 ");
    }

    private static void formatMerge() {
        LetterRepository x = Check.after("edit 00x;edit 01b;commit 0 1;branch 0;edit 10y;edit 12c;commit 1 2");
        Check.same("length", x.formatMerge(0, 1), 8);
        Check.same("0 1", Check.merged(x, 0, 1), "?bcaaaaa");
        x.edit(0, 5, 'q');
        Check.same("edited", Check.merged(x, 1, 0), "?bcaaaaa");
        Check.index("no branch", () -> x.formatMerge(0, 2));
        Check.index("no branch", () -> x.formatMerge(2, 2));
        Check.argument("same", () -> x.formatMerge(1, 1));
        Check.same("the line stays", Check.line(x, 8), "?bcaaaaa");
        Check.run(x, "revert 0;theirs 01");
        Check.same("an ancestor", Check.merged(x, 0, 1), "ybcaaaaa");
    }

    private static void lineChar() {
        LetterRepository x = new LetterRepository();
        Check.index("empty at first", () -> x.lineChar(0));
        Check.index("negative", () -> x.lineChar(-1));
        x.formatRevision(0);
        Check.same("first", x.lineChar(0), 'r');
        Check.same("last", x.lineChar(13), '0');
        Check.index("length", () -> x.lineChar(14));
        Check.index("negative", () -> x.lineChar(Integer.MIN_VALUE));
        x.formatBranch(0);
        Check.same("replaced", x.lineChar(0), 'b');
        Check.index("shorter", () -> x.lineChar(13));
        x.edit(0, 0, 'z');
        Check.same("changes leave it", x.lineChar(5), 'a');
        x.undo();
        Check.same("undo leaves it", x.lineChar(5), 'a');
    }
}
