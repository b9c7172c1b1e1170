/** Promises 45 to 53: their sentences with a boundary. */
final class StoreBoundsTest {
    private StoreBoundsTest() {
    }

    static void all() {
        Sentences.promise(45).test("Returns the number of revisions that are in use, by following parents.",
                () -> used(x -> x.usedCount()));
        Sentences.promise(46).test("Returns the same number as usedCount, by going through the revisions from the "
                + "latest to the first and marking parents.", () -> used(x -> x.usedCountByMarks()));
        meanGeneration();
        archivedShare();
        isConsistent();
        formatRevision();
        formatBranch();
        formatMerge();
        lineChar();
    }

    private interface Count {
        int of(LetterRepository x);
    }

    private static void used(Count count) {
        Check.same("the root alone", count.of(new LetterRepository()), 1);
        for (int revisions = 2; revisions <= 24; revisions++) {
            LetterRepository x = Stores.revisions(revisions);
            Check.same("all", count.of(x), revisions);
            x.reset(1, 0);
            Check.same("all but 1", count.of(x), revisions - 1);
            x.addTag('Z', 1);
            Check.same("all", count.of(x), revisions);
            x.reset(0, 0);
            Check.same("0 and 1", count.of(x), 2);
            x.archive();
            Check.same("archived", count.of(x), 2);
            x.removeTag('Z');
            Check.same("the root", count.of(x), 1);
        }
        LetterRepository x = Stores.crossed();
        Check.same("all", count.of(x), 5);
        x.reset(0, 0);
        Check.same("4 and its parents", count.of(x), 4);
        x.closeBranch(1);
        Check.same("1", count.of(x), 2);
        x.addTag('A', 3);
        Check.same("3 and its parents", count.of(x), 4);
        x.addTag('Z', 4);
        Check.same("the first and the last tag", count.of(x), 5);
        x.removeTag('A');
        Check.same("the last tag", count.of(x), 4);
        Check.same("five branches", count.of(Stores.five()), 4);
        LetterRepository merges = Stores.mergesIntoRoot();
        for (int r = 23; r >= 1; r--) {
            merges.reset(0, r);
            Check.same("by second parents", count.of(merges), r + 1);
        }
    }

    private static void meanGeneration() {
        Sentences.promise(47).test("Returns the mean generation of all revisions: the sum, converted to double, divided "
                + "by their number.", () -> {
            Check.same("the root alone", new LetterRepository().meanGeneration(), 0.0);
            Check.same("0 1 1 2 3 1", Stores.small().meanGeneration(), 8.0 / 6);
            Check.same("0 1", Stores.single().meanGeneration(), 0.5);
            LetterRepository x = new LetterRepository();
            int sum = 0;
            for (int r = 1; r < 24; r++) {
                x.edit(0, 0, (char) ('a' + r));
                x.commit(0, 0);
                sum += r;
                Check.same("a chain", x.meanGeneration(), (double) sum / (r + 1));
            }
            x.reset(0, 0);
            x.archive();
            Check.same("archived ones count", x.meanGeneration(), 11.5);
        });
    }

    private static void archivedShare() {
        Sentences.promise(48).test("Returns the number of archived revisions, converted to float, divided by the number "
                + "of all revisions.", () -> {
            Check.same("none of one", new LetterRepository().archivedShare(), 0.0f);
            Check.same("none of 24", Stores.full().archivedShare(), 0.0f);
            Check.same("one of two", Stores.single().archivedShare(), 0.5f);
            Check.same("one of six", Stores.small().archivedShare(), 1.0f / 6);
            for (int head = 0; head < 24; head++) {
                LetterRepository x = Check.full();
                x.reset(0, head);
                Check.same("not archived yet", x.archivedShare(), 0.0f);
                x.archive();
                Check.same("some of 24", x.archivedShare(), (23 - head) / 24.0f);
            }
        });
    }

    private static void isConsistent() {
        Sentences.promise(49).test("Returns true if all these checks succeed.", () -> {
            Refused.Recipe[] recipes = {LetterRepository::new, Stores::plain, Stores::single, Stores::small,
                Stores::five, Stores::crossed, Stores::skewed, Stores::full, Check::full};
            for (Refused.Recipe recipe : recipes) {
                LetterRepository x = recipe.make();
                Check.same("isConsistent", x.isConsistent(), true);
                x.archive();
                Check.same("archived", x.isConsistent(), true);
                for (int b = 0; b < x.branchCount(); b++) {
                    x.revert(b);
                    x.reset(b, 0);
                    x.archive();
                    Check.same("archived", x.isConsistent(), true);
                }
                for (int i = 0; i < 8 && x.undoableCount() > 0; i++) {
                    x.undo();
                    Check.same("undone", x.isConsistent(), true);
                }
            }
        });
    }

    private static void formatRevision() {
        Sentences s = Sentences.promise(50);
        s.test("An example is \"r7 abacaaaz @3 <5+2 !\".", () -> {
            LetterRepository x = example();
            Check.same("length", x.formatRevision(7), 21);
            Check.same("line", Refused.line(x), "r7 abacaaaz @3 <5+2 !");
        });
        s.test("Formats a revision into the line, replacing the previous line: \"r\", its number, \" \", its document, "
                + "\" @\", its author, then \" <\" and its first parent if it has one, \"+\" and its second parent if it "
                + "has one, and \" !\" if it is archived.", () -> {
            LetterRepository x = longest();
            Check.same("the longest", Check.revision(x, 23), "r23 vpqrstub @7 <21+22 !");
            Check.same("no second parent", Check.revision(x, 22), "r22 aaaaaaab @7 <0");
            Check.same("no parent", Check.revision(x, 0), "r0 aaaaaaaa @0");
            Check.same("a commit, archived", Check.revision(x, 10), "r10 hijkefga @0 <9 !");
            Check.same("length", x.formatRevision(23), 24);
            Check.same("length", x.formatRevision(0), 14);
            Check.index("nothing of the line before", () -> x.lineChar(14));
        });
        s.element("there is no such revision", () -> {
            Refused.element("formatRevision", Stores::plain,
                    Refused.each(Refused.outside(1), r -> x -> x.formatRevision(r)));
            Refused.element("formatRevision", Stores::small,
                    Refused.each(Refused.outside(6), r -> x -> x.formatRevision(r)));
            Refused.element("formatRevision", Stores::full,
                    Refused.each(Refused.outside(24), r -> x -> x.formatRevision(r)));
        });
    }

    /** Revision 7 is abacaaaz by 3, a merge of 2 into 5, and archived. */
    private static LetterRepository example() {
        LetterRepository x = new LetterRepository();
        Stores.put(x, 0, "abaaaaaa");
        x.createBranch(0);
        x.edit(1, 7, 'z');
        x.commit(1, 3);
        Stores.put(x, 0, "abaaaaab");
        Stores.put(x, 0, "abaaaaac");
        Stores.put(x, 0, "abacaaaa");
        x.createBranch(0);
        Stores.put(x, 2, "qaaaaaaa");
        Check.same("merge", x.merge(0, 1), 7);
        x.reset(0, 0);
        x.archive();
        return x;
    }

    /** Revision 23 is a merge of 22 into 21 by the author 7, and archived. */
    private static LetterRepository longest() {
        LetterRepository x = Stores.revisions(22);
        x.revert(2);
        x.edit(2, 7, 'b');
        x.commit(2, 7);
        Check.same("merge", x.merge(0, 2), 23);
        x.reset(0, 0);
        x.archive();
        return x;
    }

    private static void formatBranch() {
        Sentences s = Sentences.promise(51);
        s.test("Formats a branch into the line, replacing the previous line: \"b\", its number, \":\", its head, \" \" "
                + "and its working document, in which an edited field has a capital letter.", () -> {
            LetterRepository x = Stores.full();
            Check.same("length", x.formatBranch(0), 14);
            Check.same("a head of two digits", Refused.line(x).substring(0, 6), "b0:23 ");
            Check.same("length", x.formatBranch(2), 13);
            Check.same("one edited", Refused.line(x), "b2:0 aaaQaaaa");
            for (int field = 0; field < 8; field++) {
                x.edit(1, field, "zyxwvutz".charAt(field));
            }
            Check.same("all edited", Check.branch(x, 1), "b1:1 ZYXWVUTZ");
            x.edit(1, 7, 'b');
            x.edit(1, 0, 'a');
            Check.same("edited back", Check.branch(x, 1), "b1:1 aYXWVUTb");
            LetterRepository five = Stores.five();
            Check.same("the last branch", Check.branch(five, 4), "b4:0 aaaaaaaa");
        });
        s.index("there is no such branch", () -> {
            Refused.index("formatBranch", Stores::plain, Refused.each(Refused.outside(1), b -> x -> x.formatBranch(b)));
            Refused.index("formatBranch", Stores::small, Refused.each(Refused.outside(4), b -> x -> x.formatBranch(b)));
            Refused.index("formatBranch", Stores::five, Refused.each(Refused.outside(5), b -> x -> x.formatBranch(b)));
        });
    }

    private static void formatMerge() {
        Sentences s = Sentences.promise(52);
        s.test("Formats what a merge would give into the line, replacing the previous line: for each field the letter, "
                + "or \"?\" if the field would be a conflict.", () -> {
            LetterRepository x = Stores.sides("mmmmmmmm", "abcdefgh", "stuvwxyz");
            x.formatRevision(0);
            Check.same("length", x.formatMerge(0, 1), 8);
            Check.same("all conflicts", Refused.line(x), "????????");
            LetterRepository y = Stores.sides("mmmmmmmm", "abcdmmmm", "mmmmefgh");
            Check.same("no conflict", Check.merged(y, 1, 0), "abcdefgh");
            LetterRepository z = Stores.small();
            Check.same("one conflict", Check.merged(z, 0, 2), "?caaaaaw");
            Check.same("edited", Check.merged(z, 0, 3), "bcaaaaaa");
            Check.same("an ancestor", Check.merged(z, 0, 1), "bcaaaaaa");
            Check.same("24 revisions", Check.merged(Stores.full(), 1, 0).charAt(7), 'b');
        });
        s.index("there is no such branch, for either", () -> {
            Refused.index("first", Stores::small, Refused.each(Refused.outside(4), b -> x -> x.formatMerge(b, 0)));
            Refused.index("second", Stores::small, Refused.each(Refused.outside(4), b -> x -> x.formatMerge(0, b)));
            Refused.index("both", Stores::five, Refused.each(Refused.outside(5), b -> x -> x.formatMerge(b, b)));
            Refused.index("only one", Stores::plain, x -> x.formatMerge(0, 1), x -> x.formatMerge(1, 0));
        });
        s.argument("both are the same", () -> {
            Refused.argument("one", Stores::plain, x -> x.formatMerge(0, 0));
            Refused.argument("five", Stores::five,
                    Refused.each(new int[] {0, 1, 2, 3, 4}, b -> x -> x.formatMerge(b, b)));
        });
    }

    private static void lineChar() {
        Sentences s = Sentences.promise(53);
        s.test("Returns a character of the line, which is empty at first.", () -> {
            Refused.index("new", LetterRepository::new, x -> x.lineChar(0), x -> x.lineChar(-1), x -> x.lineChar(1));
            LetterRepository x = new LetterRepository();
            Check.same("formatRevision", x.formatRevision(0), 14);
            String due = "r0 aaaaaaaa @0";
            for (int i = 0; i < 14; i++) {
                Check.same("lineChar " + i, x.lineChar(i), due.charAt(i));
            }
            Check.same("once more", x.lineChar(0), 'r');
        });
        s.test("`index`: the index, starting at 0", () -> {
            LetterRepository x = Stores.small();
            Check.same("formatBranch", x.formatBranch(2), 13);
            Check.same("first", x.lineChar(0), 'b');
            Check.same("second", x.lineChar(1), '2');
            Check.same("last", x.lineChar(12), 'w');
        });
        s.index("the index is negative or not less than the length of the line", () -> {
            Refused.index("empty", Stores::plain, Refused.each(Refused.outside(0), i -> x -> x.lineChar(i)));
            Refused.index("14", Stores::small, Refused.each(Refused.outside(14), i -> x -> x.lineChar(i)));
            Refused.index("24", () -> {
                LetterRepository x = longest();
                x.formatRevision(23);
                return x;
            }, Refused.each(Refused.outside(24), i -> x -> x.lineChar(i)));
            Refused.index("8, behind a longer one", () -> {
                LetterRepository x = Stores.small();
                x.formatRevision(3);
                x.formatMerge(0, 1);
                return x;
            }, Refused.each(Refused.outside(8), i -> x -> x.lineChar(i)));
        });
    }
}
