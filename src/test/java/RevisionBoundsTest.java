/** Promises 14 to 30: their sentences with a boundary. */
final class RevisionBoundsTest {
    private interface Ask {
        void of(LetterRepository x, int revision);
    }

    private interface AskPair {
        void of(LetterRepository x, int first, int second);
    }

    private RevisionBoundsTest() {
    }

    static void all() {
        revisionCountAndArchive();
        parents();
        authorAndGeneration();
        letterIn();
        ancestors();
        commonAncestors();
        distance();
        differences();
        origins();
        authors();
    }

    /** Refused for all that are no revisions: in a store with the root alone, a small one and a full one. */
    private static void noRevision(String name, Ask ask) {
        Refused.element(name, Stores::plain, Refused.each(Refused.outside(1), r -> x -> ask.of(x, r)));
        Refused.element(name, Stores::small, Refused.each(Refused.outside(6), r -> x -> ask.of(x, r)));
        Refused.element(name, Stores::full, Refused.each(Refused.outside(24), r -> x -> ask.of(x, r)));
    }

    private static void noneOfEither(String name, AskPair ask) {
        noRevision(name + ", first", (x, r) -> ask.of(x, r, 0));
        noRevision(name + ", second", (x, r) -> ask.of(x, 0, r));
        noRevision(name + ", both", (x, r) -> ask.of(x, r, r));
    }

    private static void revisionCountAndArchive() {
        Sentences.promise(14).test("Returns the number of revisions, archived ones included.", () -> {
            Check.same("the root alone", new LetterRepository().revisionCount(), 1);
            for (int count = 2; count <= 24; count++) {
                Check.same("revisionCount", Stores.revisions(count).revisionCount(), count);
            }
            LetterRepository x = Stores.full();
            x.reset(0, 0);
            x.reset(1, 0);
            Check.same("archive", x.archive(), 23);
            Check.same("archived ones", x.revisionCount(), 24);
            Check.same("one of two archived", Stores.single().revisionCount(), 2);
        });
        Sentences.promise(15).element("there is no such revision", () -> {
            noRevision("isArchived", (x, r) -> x.isArchived(r));
            LetterRepository x = Stores.single();
            Check.same("the last revision", x.isArchived(1), true);
            Check.same("the root", x.isArchived(0), false);
            LetterRepository full = Stores.full();
            full.reset(0, 22);
            full.archive();
            Check.same("revision 23", full.isArchived(23), true);
            Check.same("revision 22", full.isArchived(22), false);
        });
    }

    private static void parents() {
        Sentences.promise(16).element("there is no such revision, or it is the root", () -> {
            noRevision("firstParent", (x, r) -> x.firstParent(r));
            Refused.element("the root", Stores::plain, x -> x.firstParent(0));
            Refused.element("the root", Stores::small, x -> x.firstParent(0));
            Refused.element("the root", Stores::full, x -> x.firstParent(0));
            LetterRepository x = Stores.full();
            Check.same("revision 1", x.firstParent(1), 0);
            Check.same("revision 2", x.firstParent(2), 0);
            Check.same("revision 23", x.firstParent(23), 22);
        });
        Sentences.promise(17).element("there is no such revision, or it has no second parent", () -> {
            noRevision("secondParent", (x, r) -> x.secondParent(r));
            Refused.element("none", Stores::small,
                    Refused.each(new int[] {0, 1, 2, 4, 5}, r -> x -> x.secondParent(r)));
            Refused.element("none", Stores::full, x -> x.secondParent(23), x -> x.secondParent(0));
            Check.same("a merge", Stores.small().secondParent(3), 2);
            LetterRepository root = Stores.revisions(3);
            root.createBranch(0);
            Check.same("a merge into the root", root.merge(3, 0), 3);
            Check.same("firstParent", root.firstParent(3), 0);
            Check.same("secondParent", root.secondParent(3), 2);
        });
    }

    private static void authorAndGeneration() {
        Sentences.promise(18).element("there is no such revision", () -> {
            noRevision("authorOf", (x, r) -> x.authorOf(r));
            LetterRepository x = Stores.full();
            Check.same("root", x.authorOf(0), 0);
            Check.same("revision 1", x.authorOf(1), 7);
            Check.same("revision 23", x.authorOf(23), 3);
        });
        Sentences.promise(19).element("there is no such revision", () -> {
            noRevision("generation", (x, r) -> x.generation(r));
            LetterRepository x = Stores.full();
            Check.same("root", x.generation(0), 0);
            Check.same("revision 1", x.generation(1), 1);
            Check.same("revision 23", x.generation(23), 22);
        });
    }

    private static void letterIn() {
        Sentences s = Sentences.promise(20);
        s.test("`field`: the field, 0 to 7", () -> {
            LetterRepository x = Stores.sides("mmmmmmmm", "mmmmmmmm", "abcdefgh");
            for (int field = 0; field < 8; field++) {
                Check.same("revision 2", x.letterIn(2, field), (char) ('a' + field));
                Check.same("revision 1", x.letterIn(1, field), 'm');
                Check.same("root", x.letterIn(0, field), 'a');
            }
            Refused.index("letterIn", Stores::small, y -> y.letterIn(3, 8), y -> y.letterIn(3, -1));
        });
        s.element("there is no such revision", () -> {
            noRevision("letterIn", (x, r) -> x.letterIn(r, 0));
            noRevision("letterIn, no field", (x, r) -> x.letterIn(r, 8));
            noRevision("letterIn, no field", (x, r) -> x.letterIn(r, -1));
            Check.same("the last one", Stores.full().letterIn(23, 2), 'x');
        });
        s.index("there is no such field", () -> {
            for (int r = 0; r < 6; r++) {
                int revision = r;
                Refused.index("letterIn", Stores::small,
                        Refused.each(Refused.outside(8), f -> x -> x.letterIn(revision, f)));
            }
            Refused.index("the last one", Stores::full, Refused.each(Refused.outside(8), f -> x -> x.letterIn(23, f)));
        });
    }

    private static void ancestors() {
        Sentences.promise(21).test("Returns true if it is; a revision is an ancestor of itself.", () -> {
            LetterRepository x = Stores.full();
            for (int r = 0; r < 24; r++) {
                Check.same("itself", x.isAncestor(r, r), true);
                Check.same("the root", x.isAncestor(0, r), true);
                Check.same("of the root", x.isAncestor(r, 0), r == 0);
                Check.same("the other branch", x.isAncestor(1, r), r == 1);
            }
        });
        Sentences.promise(21).element("there is no such revision, for either", () -> {
            noneOfEither("isAncestor", (x, a, b) -> x.isAncestor(a, b));
        });
        Sentences.promise(22).test("Returns the number of ancestors of a revision, itself included.", () -> {
            int[] due = {1, 2, 2, 4, 5, 2};
            LetterRepository x = Stores.small();
            for (int r = 0; r < 6; r++) {
                Check.same("of " + r, x.ancestorCount(r), due[r]);
            }
            Check.same("both parents lead to the same ones", Stores.crossed().ancestorCount(4), 4);
            Check.same("all 24", Check.full().ancestorCount(23), 24);
            Check.same("all 24, by second parents", Stores.mergesIntoRoot().ancestorCount(23), 24);
        });
        Sentences.promise(22).element("there is no such revision", () -> {
            noRevision("ancestorCount", (x, r) -> x.ancestorCount(r));
        });
    }

    private static void commonAncestors() {
        Sentences.promise(23).element("there is no such revision, for either", () -> {
            noneOfEither("commonAncestor", (x, a, b) -> x.commonAncestor(a, b));
        });
        Sentences.promise(24).element("there is no such revision, for either", () -> {
            noneOfEither("commonAncestorBySets", (x, a, b) -> x.commonAncestorBySets(a, b));
        });
        Sentences.promise(23).test("Returns the common ancestor of two revisions, by marking the ancestors of the first "
                + "one and searching those of the second one.", () -> {
            LetterRepository x = Check.full();
            for (int r = 0; r < 24; r++) {
                Check.same("the last and " + r, x.commonAncestor(23, r), r);
                Check.same(r + " and the last", x.commonAncestor(r, 23), r);
                Check.same("itself", x.commonAncestor(r, r), r);
                Check.same("the root", x.commonAncestor(r, 0), 0);
            }
            Check.same("only the root", Stores.full().commonAncestor(1, 23), 0);
            Check.same("crossed", Stores.crossed().commonAncestor(4, 3), 2);
            LetterRepository merges = Stores.mergesIntoRoot();
            for (int r = 0; r < 24; r++) {
                Check.same("by second parents", merges.commonAncestor(23, r), r);
                Check.same("by second parents", merges.commonAncestor(r, 23), r);
            }
        });
        Sentences.promise(24).test("Returns the same as commonAncestor, but intersects the sets of ancestors of both.",
                () -> {
            LetterRepository x = Check.full();
            for (int r = 0; r < 24; r++) {
                Check.same("the last and " + r, x.commonAncestorBySets(23, r), r);
                Check.same(r + " and the last", x.commonAncestorBySets(r, 23), r);
                Check.same("itself", x.commonAncestorBySets(r, r), r);
                Check.same("the root", x.commonAncestorBySets(r, 0), 0);
            }
            Check.same("only the root", Stores.full().commonAncestorBySets(1, 23), 0);
            Check.same("crossed", Stores.crossed().commonAncestorBySets(3, 4), 2);
            LetterRepository merges = Stores.mergesIntoRoot();
            for (int r = 0; r < 24; r++) {
                Check.same("by second parents", merges.commonAncestorBySets(23, r), r);
                Check.same("by second parents", merges.commonAncestorBySets(r, 23), r);
            }
        });
    }

    private static void distance() {
        Sentences s = Sentences.promise(25);
        s.test("Returns the number of steps, 0 if both are the same.", () -> {
            LetterRepository chain = Check.full();
            for (int r = 0; r < 24; r++) {
                Check.same("itself", chain.distance(r, r), 0);
                Check.same("from the root", chain.distance(0, r), r);
                Check.same("to the root", chain.distance(r, 0), r);
                Check.same("from the last", chain.distance(23, r), 23 - r);
            }
            Check.same("by way of the root", Stores.full().distance(1, 23), 23);
            LetterRepository merges = Stores.mergesIntoRoot();
            for (int r = 1; r < 24; r++) {
                Check.same("a step to the first parent", merges.distance(r, 0), 1);
                Check.same("to the second parent, or by way of the root", merges.distance(23, r), Math.min(2, 23 - r));
            }
            int[][] due = {{0, 1, 1, 2, 3, 1}, {1, 0, 2, 1, 2, 2}, {1, 2, 0, 1, 2, 2}, {2, 1, 1, 0, 1, 3},
                {3, 2, 2, 1, 0, 4}, {1, 2, 2, 3, 4, 0}};
            LetterRepository x = Stores.small();
            for (int first = 0; first < 6; first++) {
                for (int second = 0; second < 6; second++) {
                    Check.same("of " + first + " and " + second, x.distance(first, second), due[first][second]);
                }
            }
        });
        s.test("Returns the smallest number of steps from a revision to another one, where each step leads from a "
                + "revision to one of its parents or from a parent to the revision.", () -> {
            LetterRepository x = Stores.revisions(8);
            Check.same("by way of the root", x.distance(1, 7), 7);
            Check.same("a merge", x.merge(0, 1), 8);
            Check.same("by way of the merge", x.distance(1, 7), 2);
            Check.same("the other way", x.distance(7, 1), 2);
            Check.same("up or down", x.distance(4, 1), 4);
            Check.same("up or down", x.distance(5, 1), 4);
        });
        s.element("there is no such revision, for either", () -> {
            noneOfEither("distance", (x, a, b) -> x.distance(a, b));
        });
    }

    private static void differences() {
        Sentences s = Sentences.promise(26);
        s.test("Returns the number of fields in which the documents of two revisions differ.", () -> {
            for (int same = 0; same <= 8; same++) {
                LetterRepository x = Stores.sides("mmmmmmmm", "mmmmmmmm", "mmmmmmmm".substring(0, same)
                        + "abcdefgh".substring(same));
                if (same < 8) {
                    Check.same("differences", x.differences(1, 2), 8 - same);
                    Check.same("differences", x.differences(2, 1), 8 - same);
                }
                Check.same("itself", x.differences(1, 1), 0);
                Check.same("all", x.differences(0, 1), 8);
            }
            Check.same("the same document twice", Stores.crossed().differences(3, 4), 0);
        });
        s.element("there is no such revision, for either", () -> {
            noneOfEither("differences", (x, a, b) -> x.differences(a, b));
        });
    }

    private interface Origin {
        int of(LetterRepository x, int revision, int field);
    }

    private static void origins() {
        origin(Sentences.promise(27), (x, r, f) -> x.originOf(r, f));
        origin(Sentences.promise(28), (x, r, f) -> x.originByRecursion(r, f));
        Sentences.promise(27).test("Returns where the letter in a field comes from: going from the revision to first "
                + "parents as long as the first parent has the same letter in this field, the last revision that is "
                + "reached.", () -> origins((x, r, f) -> x.originOf(r, f)));
        Sentences.promise(28).test("Returns the same as originOf, by recursion.",
                () -> origins((x, r, f) -> x.originByRecursion(r, f)));
    }

    private static void origin(Sentences s, Origin origin) {
        s.test("`field`: the field, 0 to 7", () -> {
            LetterRepository x = Stores.sides("mmmmmmmm", "mmmmmmmm", "abcdefgh");
            for (int field = 0; field < 8; field++) {
                Check.same("revision 2", origin.of(x, 2, field), 2);
                Check.same("revision 1", origin.of(x, 1, field), 1);
                Check.same("root", origin.of(x, 0, field), 0);
            }
            Refused.index("origin", Stores::small, y -> origin.of(y, 3, 8), y -> origin.of(y, 3, -1));
        });
        s.element("there is no such revision", () -> {
            noRevision("origin", (x, r) -> origin.of(x, r, 0));
            noRevision("origin, no field", (x, r) -> origin.of(x, r, 8));
            noRevision("origin, no field", (x, r) -> origin.of(x, r, -1));
        });
        s.index("there is no such field", () -> {
            Refused.index("root", Stores::plain, Refused.each(Refused.outside(8), f -> x -> origin.of(x, 0, f)));
            Refused.index("merge", Stores::small, Refused.each(Refused.outside(8), f -> x -> origin.of(x, 3, f)));
            Refused.index("last", Stores::full, Refused.each(Refused.outside(8), f -> x -> origin.of(x, 23, f)));
        });
    }

    private static void origins(Origin origin) {
        LetterRepository chain = Check.full();
        Check.same("the longest way", origin.of(chain, 7, 0), 0);
        for (int r = 8; r < 16; r++) {
            Check.same("the first change", origin.of(chain, r, 0), 8);
        }
        Check.same("the last change", origin.of(chain, 23, 7), 23);
        Check.same("the one before", origin.of(chain, 22, 7), 15);
        LetterRepository unchanged = new LetterRepository();
        for (int r = 1; r < 24; r++) {
            unchanged.edit(0, 0, r % 2 == 0 ? 'a' : 'b');
            unchanged.commit(0, 0);
        }
        Check.same("23 steps", origin.of(unchanged, 23, 7), 0);
        Check.same("changed away and back", origin.of(unchanged, 22, 0), 22);
        LetterRepository merged = Stores.small();
        Check.same("a letter of theirs", origin.of(merged, 3, 1), 3);
        Check.same("a letter of ours", origin.of(merged, 3, 0), 1);
        Check.same("behind the merge", origin.of(merged, 4, 1), 3);
        Check.same("a letter that nobody changed", origin.of(merged, 4, 5), 0);
        LetterRepository both = Stores.sides("mmmmmmmm", "nmmmmmmm", "nmmmmmmz");
        Check.same("merge", both.merge(0, 1), 4);
        Check.same("the same letter on both sides", origin.of(both, 4, 0), 2);
    }

    private static void authors() {
        Sentences s = Sentences.promise(29);
        s.test("`author`: the author, 0 to 9", () -> {
            LetterRepository x = Stores.full();
            int[] due = {3, 2, 3, 3, 2, 2, 2, 3, 2, 2};
            int sum = 0;
            for (int author = 0; author <= 9; author++) {
                sum += x.revisionsBy(author);
            }
            Check.same("all of them", sum, 24);
            for (int author = 0; author <= 9; author++) {
                Check.same("by " + author, x.revisionsBy(author), due[author]);
                Check.same("of one", new LetterRepository().revisionsBy(author), author == 0 ? 1 : 0);
            }
            Refused.argument("revisionsBy", Stores::small, y -> y.revisionsBy(10), y -> y.revisionsBy(-1));
        });
        s.argument("the author is out of range", () -> {
            Refused.argument("revisionsBy", Stores::plain,
                    Refused.each(Refused.outside(10), a -> x -> x.revisionsBy(a)));
            Refused.argument("revisionsBy", Stores::full,
                    Refused.each(Refused.outside(10), a -> x -> x.revisionsBy(a)));
        });
        Sentences.promise(30).test("Of several such authors it is the lowest one.", () -> {
            LetterRepository all = new LetterRepository();
            for (int author = 9; author >= 1; author--) {
                all.edit(0, 0, (char) ('a' + author));
                all.commit(0, author);
                Check.same("one each", all.busiestAuthor(), 0);
            }
            for (int author = 9; author >= 1; author--) {
                all.edit(0, 1, (char) ('a' + author));
                all.commit(0, author);
                Check.same("two each, but for the lower ones", all.busiestAuthor(), author);
            }
            all.edit(0, 2, 'q');
            all.commit(0, 0);
            Check.same("two each", all.busiestAuthor(), 0);
            all.edit(0, 2, 'r');
            all.commit(0, 9);
            Check.same("three", all.busiestAuthor(), 9);
            all.edit(0, 2, 's');
            all.commit(0, 8);
            Check.same("three each", all.busiestAuthor(), 8);
        });
        Sentences.promise(30).test("Returns the author with the most revisions.", () -> {
            Check.same("the root alone", new LetterRepository().busiestAuthor(), 0);
            for (int author = 0; author <= 9; author++) {
                LetterRepository x = new LetterRepository();
                x.edit(0, 0, 'b');
                x.commit(0, author);
                Check.same("one and the root", x.busiestAuthor(), 0);
                x.edit(0, 0, 'c');
                x.commit(0, author);
                Check.same("two and the root", x.busiestAuthor(), author);
            }
        });
    }
}
