import java.util.NoSuchElementException;

/** Promises 1 to 13: their sentences with a boundary. */
final class ChangeBoundsTest {
    private ChangeBoundsTest() {
    }

    static void all() {
        edit();
        revert();
        commit();
        createBranch();
        closeBranch();
        merge();
        mergeKeeping();
        pick();
        reset();
        addTag();
        removeTag();
        archive();
    }

    private static void edit() {
        Sentences s = Sentences.promise(2);
        s.test("`field`: the field, 0 to 7", () -> {
            for (int field = 0; field < 8; field++) {
                LetterRepository x = Stores.small();
                Check.same("edit", x.edit(0, field, 'q'), 1);
                Check.same("letterAt", x.letterAt(0, field), 'q');
                Check.same("no other field", x.editCount(0), 1);
                Check.same("no other branch", x.editCount(1) + x.editCount(2), 0);
            }
            Refused.index("edit", Stores::small, Refused.each(Refused.outside(8), f -> x -> x.edit(0, f, 'q')));
        });
        s.test("`letter`: the letter, from a to z", () -> {
            for (char letter = 'a'; letter <= 'z'; letter++) {
                LetterRepository x = new LetterRepository();
                Check.same("edit", x.edit(0, 7, letter), letter == 'a' ? 0 : 1);
                Check.same("letterAt", x.letterAt(0, 7), letter);
            }
            Refused.argument("edit", Stores::small, x -> x.edit(0, 7, '`'), x -> x.edit(0, 7, '{'));
        });
        s.test("Returns the number of edited fields of the branch afterwards.", () -> {
            LetterRepository x = Stores.small();
            for (int field = 0; field < 8; field++) {
                Check.same("one more", x.edit(0, field, 'q'), field + 1);
            }
            Check.same("all and another letter", x.edit(0, 7, 'r'), 8);
            for (int field = 0; field < 8; field++) {
                Check.same("one less", x.edit(0, field, x.letterIn(3, field)), 7 - field);
            }
            Check.same("none", x.edit(0, 0, 'b'), 0);
            Check.same("of this branch", x.edit(3, 0, 'b'), 2);
        });
        s.index("there is no such branch or field", () -> {
            Refused.index("edit", Stores::small, Refused.each(Refused.outside(4), b -> x -> x.edit(b, 0, 'q')));
            Refused.index("edit", Stores::plain, Refused.each(Refused.outside(1), b -> x -> x.edit(b, 7, 'q')));
            Refused.index("edit", Stores::five, Refused.each(Refused.outside(5), b -> x -> x.edit(b, 7, 'q')));
            Refused.index("edit", Stores::five, Refused.each(Refused.outside(8), f -> x -> x.edit(4, f, 'q')));
            Refused.index("edit neither", Stores::small, Refused.each(Refused.outside(8), n -> x -> x.edit(n, n, '-')));
            Refused.index("edit no letter", Stores::small,
                    Refused.each(Refused.outside(8), f -> x -> x.edit(0, f, 'Q')));
            Check.same("the last branch and field", Stores.five().edit(4, 7, 'q'), 1);
        });
        s.argument("there is no such letter", () -> {
            Refused.characters("edit", IllegalArgumentException.class, Stores::small, c -> c >= 'a' && c <= 'z',
                    (x, c) -> x.edit(3, 7, c));
            Refused.argument("edit", Stores::full, x -> x.edit(0, 0, 'A'), x -> x.edit(0, 0, 'Z'),
                    x -> x.edit(0, 0, (char) ('a' + 256)), x -> x.edit(0, 0, (char) 0));
        });
    }

    private static void revert() {
        Sentences s = Sentences.promise(3);
        s.test("Returns the number of fields that were edited.", () -> {
            for (int edited = 0; edited <= 8; edited++) {
                LetterRepository x = Stores.small();
                for (int field = 0; field < edited; field++) {
                    x.edit(1, 7 - field, 'q');
                }
                Check.same("revert", x.revert(1), edited);
                Check.same("branch", Check.branch(x, 1), "b1:2 acaaaaaa");
                Check.same("again", x.revert(1), 0);
                Check.same("another branch", x.editCount(3), 1);
            }
        });
        s.index("there is no such branch", () -> {
            Refused.index("revert", Stores::plain, Refused.each(Refused.outside(1), b -> x -> x.revert(b)));
            Refused.index("revert", Stores::small, Refused.each(Refused.outside(4), b -> x -> x.revert(b)));
            Refused.index("revert", Stores::five, Refused.each(Refused.outside(5), b -> x -> x.revert(b)));
            Check.same("the last branch", Stores.small().revert(3), 1);
        });
    }

    private static void commit() {
        Sentences s = Sentences.promise(4);
        s.test("Its only parent is the head, and it becomes the head.", () -> {
            LetterRepository x = Stores.small();
            Check.same("commit", x.commit(3, 0), 6);
            Check.same("firstParent", x.firstParent(6), 0);
            Check.element("secondParent", () -> x.secondParent(6));
            Check.same("branch", Check.branch(x, 3), "b3:6 aaaaaaaz");
            Check.same("another head", x.head(0), 3);
            x.edit(0, 4, 'k');
            Check.same("commit on a merge", x.commit(0, 0), 7);
            Check.same("revision", Check.revision(x, 7), "r7 bcaakaaa @0 <3");
        });
        s.test("`author`: the author, 0 to 9", () -> {
            for (int author = 0; author <= 9; author++) {
                LetterRepository x = Stores.small();
                Check.same("commit", x.commit(3, author), 6);
                Check.same("authorOf", x.authorOf(6), author);
            }
            Refused.argument("commit", Stores::small, x -> x.commit(3, 10), x -> x.commit(3, -1));
        });
        s.index("there is no such branch", () -> {
            Refused.index("commit", Stores::plain, Refused.each(Refused.outside(1), b -> x -> x.commit(b, 1)));
            Refused.index("commit", Stores::small, Refused.each(Refused.outside(4), b -> x -> x.commit(b, 1)));
            Refused.index("no author", Stores::small, Refused.each(Refused.outside(10), b -> x -> x.commit(b, b)));
            Refused.index("24 revisions", Stores::full, Refused.each(Refused.outside(3), b -> x -> x.commit(b, 1)));
        });
        s.argument("the author is out of range", () -> {
            Refused.argument("commit", Stores::small, Refused.each(Refused.outside(10), a -> x -> x.commit(3, a)));
            Refused.argument("no edits", Stores::small, Refused.each(Refused.outside(10), a -> x -> x.commit(0, a)));
            Refused.argument("24 revisions", Stores::full, Refused.each(Refused.outside(10), a -> x -> x.commit(2, a)));
        });
        s.state("no field of the branch is edited, or 24 revisions exist", () -> {
            Refused.state("no edit", Stores::small, x -> x.commit(0, 1), x -> x.commit(1, 1), x -> x.commit(2, 1));
            for (int field = 0; field < 8; field++) {
                LetterRepository x = Stores.small();
                x.edit(0, field, 'q');
                Check.same("one edit", x.commit(0, 1), 6);
                Check.state("none again", () -> x.commit(0, 1));
                Check.same("another letter", x.edit(0, field, 'r') + x.edit(0, field, 'q'), 1);
                Check.state("edited back", () -> x.commit(0, 1));
            }
            for (int count = 22; count <= 23; count++) {
                LetterRepository x = Stores.revisions(count);
                Check.same("commit with " + count, x.commit(2, 1), count);
                Check.same("revisionCount", x.revisionCount(), count + 1);
            }
            Refused.state("24 revisions", Stores::full, x -> x.commit(2, 1));
            Refused.state("24 revisions, no edit", Stores::full, x -> x.commit(0, 1));
            Refused.state("archived ones count", () -> {
                LetterRepository x = Stores.full();
                x.reset(0, 0);
                x.archive();
                return x;
            }, x -> x.commit(2, 1));
            LetterRepository undone = Stores.full();
            undone.undo();
            undone.undo();
            undone.edit(0, 0, 'p');
            Check.same("23 after undo", undone.commit(0, 1), 23);
        });
    }

    private static void createBranch() {
        Sentences s = Sentences.promise(5);
        s.element("there is no such revision, or it is archived", () -> {
            Refused.element("createBranch", Stores::plain,
                    Refused.each(Refused.outside(1), r -> x -> x.createBranch(r)));
            Refused.element("createBranch", Stores::small,
                    Refused.each(Refused.outside(6), r -> x -> x.createBranch(r)));
            Refused.element("createBranch", Stores::full,
                    Refused.each(Refused.outside(24), r -> x -> x.createBranch(r)));
            Refused.element("archived", Stores::small, x -> x.createBranch(4));
            Refused.element("archived", Stores::single, x -> x.createBranch(1));
            Refused.element("five branches", Stores::five,
                    Refused.each(Refused.outside(5), r -> x -> x.createBranch(r)));
            Refused.element("five branches, archived", Stores::five, x -> x.createBranch(4));
            Check.same("the revision before", Stores.small().createBranch(3), 4);
            Check.same("the revision behind", Stores.small().createBranch(5), 4);
            LetterRepository full = Stores.full();
            Check.same("the last revision", full.createBranch(23), 3);
            Check.same("head", full.head(3), 23);
        });
        s.state("there are 5 branches", () -> {
            Refused.state("five", Stores::five, x -> x.createBranch(0), x -> x.createBranch(1), x -> x.createBranch(3));
            LetterRepository x = Stores.five();
            x.closeBranch(0);
            Check.same("the fifth", x.createBranch(3), 4);
            Check.same("branch", Check.branch(x, 4), "b4:3 bdaaaaaa");
            Check.state("the sixth", () -> x.createBranch(3));
            x.undo();
            Check.same("the fifth", x.createBranch(1), 4);
            LetterRepository y = new LetterRepository();
            for (int b = 1; b < 5; b++) {
                Check.same("createBranch", y.createBranch(0), b);
            }
            Check.state("the sixth", () -> y.createBranch(0));
        });
    }

    private static void closeBranch() {
        Sentences s = Sentences.promise(6);
        s.index("there is no such branch", () -> {
            Refused.index("closeBranch", Stores::small, Refused.each(Refused.outside(4), b -> x -> x.closeBranch(b)));
            Refused.index("closeBranch", Stores::five, Refused.each(Refused.outside(5), b -> x -> x.closeBranch(b)));
            Refused.index("the only one", Stores::single, Refused.each(Refused.outside(1), b -> x -> x.closeBranch(b)));
            Check.same("the first", Stores.five().closeBranch(0), 4);
            Check.same("the last", Stores.five().closeBranch(4), 4);
        });
        s.state("it is the only branch", () -> {
            Refused.state("new", LetterRepository::new, x -> x.closeBranch(0));
            Refused.state("single", Stores::single, x -> x.closeBranch(0));
            for (int closed = 0; closed < 2; closed++) {
                LetterRepository x = Stores.single();
                x.createBranch(0);
                Check.same("one of two", x.closeBranch(closed), 1);
                Check.same("what stays", Check.branch(x, 0), closed == 0 ? "b0:0 aaaaaaaa" : "b0:0 Yaaaaaaa");
                Check.state("the only one", () -> x.closeBranch(0));
            }
        });
    }

    private static void merge() {
        Sentences s = Sentences.promise(7);
        s.test("The author of the new revision is the author of the head of the other branch.", () -> {
            LetterRepository x = Stores.small();
            Check.same("ours is by 2, theirs by 4", x.merge(1, 2), 6);
            Check.same("author", x.authorOf(6), 4);
            x.undo();
            Check.same("ours is by 4, theirs by 2", x.merge(2, 1), 6);
            Check.same("author", x.authorOf(6), 2);
            LetterRepository root = Stores.sides("aaaaaaaa", "baaaaaaa", "aaaaaaaa");
            Check.same("the root is no other head", root.canMerge(0, 1), false);
            Check.same("forward from the root", root.mergeKeeping(1, 0, true), 2);
            Check.same("author", root.authorOf(2), 0);
        });
        s.index("there is no such branch, for either", () -> {
            Refused.index("first", Stores::small, Refused.each(Refused.outside(4), b -> x -> x.merge(b, 1)));
            Refused.index("second", Stores::small, Refused.each(Refused.outside(4), b -> x -> x.merge(1, b)));
            Refused.index("both", Stores::small, Refused.each(Refused.outside(4), b -> x -> x.merge(b, b)));
            Refused.index("only one", Stores::single, x -> x.merge(0, 1), x -> x.merge(1, 0));
            Refused.index("24 revisions", Stores::full, x -> x.merge(0, 3), x -> x.merge(3, 0), x -> x.merge(-1, 0));
            Refused.index("edited", Stores::small, x -> x.merge(3, 4), x -> x.merge(4, 3));
        });
        s.argument("both are the same", () -> {
            for (int b = 0; b < 5; b++) {
                int branch = b;
                Refused.argument("five", Stores::five, x -> x.merge(branch, branch));
            }
            Refused.argument("edited", Stores::small, x -> x.merge(3, 3));
            Refused.argument("single", Stores::single, x -> x.merge(0, 0));
            Refused.argument("24 revisions", Stores::full, x -> x.merge(0, 0), x -> x.merge(2, 2));
        });
        s.state("a field of one of the branches is edited, the head of the other branch is an ancestor of the head of "
                + "the branch, 24 revisions exist, or there is a conflict", () -> {
            edited((x, other) -> x.merge(0, other));
            ancestors((x, other) -> x.merge(0, other));
            Refused.state("24 revisions", Stores::full, x -> x.merge(0, 1), x -> x.merge(1, 0));
            LetterRepository x = Stores.revisions(23);
            Check.same("23 revisions", x.merge(0, 1), 23);
            for (int field = 0; field < 8; field++) {
                Refused.Recipe recipe = conflict(field);
                Refused.state("one conflict", recipe, y -> y.merge(0, 1), y -> y.merge(1, 0));
                LetterRepository y = recipe.make();
                y.edit(1, field, 'b');
                y.commit(1, 1);
                Check.same("none", y.merge(0, 1), 4);
            }
        });
    }

    /** Branches whose heads conflict in one field alone. */
    private static Refused.Recipe conflict(int field) {
        String rest = "aaaaaaa";
        String before = rest.substring(0, field);
        String behind = rest.substring(field);
        return () -> Stores.sides("aaaaaaaa", before + "b" + behind, before + "c" + behind);
    }

    private interface Merging {
        int into0(LetterRepository x, int other);
    }

    private static void edited(Merging merging) {
        for (int i = 0; i < 16; i++) {
            int branch = i / 8;
            int field = i % 8;
            Refused.Recipe recipe = () -> {
                LetterRepository x = Stores.sides("aaaaaaaa", "baaaaaaa", "aaaaaaac");
                x.edit(branch, field, 'z');
                return x;
            };
            Refused.state("edited", recipe, x -> merging.into0(x, 1));
            LetterRepository x = recipe.make();
            x.edit(branch, field, x.letterIn(x.head(branch), field));
            Check.same("edited back", merging.into0(x, 1), 3);
        }
        LetterRepository third = Stores.sides("aaaaaaaa", "baaaaaaa", "aaaaaaac");
        third.createBranch(0);
        third.edit(2, 0, 'z');
        Check.same("a third branch is edited", merging.into0(third, 1), 3);
    }

    private static void ancestors(Merging merging) {
        int[] ancestors = {0, 1, 2, 3};
        for (int ancestor : ancestors) {
            Refused.state("an ancestor", () -> {
                LetterRepository x = Stores.crossed();
                x.reset(1, ancestor);
                return x;
            }, x -> merging.into0(x, 1));
        }
        LetterRepository x = Stores.crossed();
        Check.same("the sides of crossed merges", merging.into0(x, 1), 5);
        Check.same("firstParent", x.firstParent(5), 3);
        Check.state("merged", () -> merging.into0(x, 1));
        LetterRepository y = Stores.crossed();
        y.reset(0, 1);
        Check.same("a descendant", merging.into0(y, 1), 5);
        Check.same("revision", Check.revision(y, 5), "r5 bcaaaaaa @1 <1+4");
    }

    private static void mergeKeeping() {
        Sentences s = Sentences.promise(8);
        s.index("there is no such branch, for either", () -> {
            Refused.index("1st", Stores::small, Refused.each(Refused.outside(4), b -> x -> x.mergeKeeping(b, 1, true)));
            Refused.index("2nd", Stores::small,
                    Refused.each(Refused.outside(4), b -> x -> x.mergeKeeping(1, b, false)));
            Refused.index("both", Stores::small,
                    Refused.each(Refused.outside(4), b -> x -> x.mergeKeeping(b, b, true)));
            Refused.index("24 revisions", Stores::full, x -> x.mergeKeeping(0, 3, true),
                    x -> x.mergeKeeping(3, 0, false));
        });
        s.argument("both are the same", () -> {
            for (int b = 0; b < 4; b++) {
                int branch = b;
                Refused.argument("small", Stores::small, x -> x.mergeKeeping(branch, branch, true),
                        x -> x.mergeKeeping(branch, branch, false));
            }
            Refused.argument("24 revisions", Stores::full, x -> x.mergeKeeping(0, 0, true));
        });
        s.state("a field of one of the branches is edited, the head of the other branch is an ancestor of the head of "
                + "the branch, or 24 revisions exist", () -> {
            edited((x, other) -> x.mergeKeeping(0, other, true));
            edited((x, other) -> x.mergeKeeping(0, other, false));
            ancestors((x, other) -> x.mergeKeeping(0, other, true));
            ancestors((x, other) -> x.mergeKeeping(0, other, false));
            Refused.state("24 revisions", Stores::full, x -> x.mergeKeeping(0, 1, true),
                    x -> x.mergeKeeping(1, 0, false));
            Check.same("23 revisions", Stores.revisions(23).mergeKeeping(1, 0, true), 23);
            for (int field = 0; field < 8; field++) {
                Check.same("a conflict", conflict(field).make().mergeKeeping(0, 1, true), 3);
                Check.same("a conflict", conflict(field).make().mergeKeeping(1, 0, false), 3);
            }
        });
        s.test("`keepsOurs`: true for the letter of ours, false for that of theirs", () -> {
            LetterRepository x = Stores.sides("mmmmmmmm", "abcdefgh", "stuvwxyz");
            x.mergeKeeping(0, 1, true);
            Check.same("ours in all fields", Check.branch(x, 0), "b0:4 abcdefgh");
            x.undo();
            x.mergeKeeping(0, 1, false);
            Check.same("theirs in all fields", Check.branch(x, 0), "b0:4 stuvwxyz");
            x.undo();
            x.mergeKeeping(1, 0, true);
            Check.same("the other way", Check.branch(x, 1), "b1:4 stuvwxyz");
            LetterRepository y = Stores.sides("mmmmmmmm", "mmmmmmma", "zmmmmmmm");
            y.mergeKeeping(0, 1, true);
            Check.same("no conflict, no side", Check.branch(y, 0), "b0:4 zmmmmmma");
        });
    }

    private static void pick() {
        Sentences s = Sentences.promise(9);
        s.test("Returns the number of fields of the working document that are different afterwards.", () -> {
            for (int there = 0; there <= 8; there++) {
                LetterRepository x = Stores.sides("mmmmmmmm", "abcdefgh", "mmmmmmmm");
                for (int field = 0; field < there; field++) {
                    x.edit(1, field, (char) ('a' + field));
                }
                Check.same("pick", x.pick(1, 2), 8 - there);
                Check.same("branch", Check.branch(x, 1), "b1:1 ABCDEFGH");
                Check.same("again", x.pick(1, 2), 0);
            }
        });
        s.index("there is no such branch", () -> {
            Refused.index("pick", Stores::small, Refused.each(Refused.outside(4), b -> x -> x.pick(b, 1)));
            Refused.index("no revision", Stores::small, Refused.each(Refused.outside(6), b -> x -> x.pick(b, b)));
            Refused.index("root", Stores::small, Refused.each(Refused.outside(4), b -> x -> x.pick(b, 0)));
            Refused.index("archived", Stores::small, Refused.each(Refused.outside(4), b -> x -> x.pick(b, 4)));
            Check.same("the last branch", Stores.small().pick(3, 1), 1);
        });
        s.element("there is no such revision, or it is archived", () -> {
            Refused.element("pick", Stores::plain, Refused.each(Refused.outside(1), r -> x -> x.pick(0, r)));
            Refused.element("pick", Stores::small, Refused.each(Refused.outside(6), r -> x -> x.pick(3, r)));
            Refused.element("pick", Stores::full, Refused.each(Refused.outside(24), r -> x -> x.pick(1, r)));
            for (int b = 0; b < 4; b++) {
                int branch = b;
                Refused.element("archived", Stores::small, x -> x.pick(branch, 4));
            }
            Refused.element("archived and blocked", () -> {
                LetterRepository x = Stores.small();
                x.edit(1, 2, 'q');
                return x;
            }, x -> x.pick(1, 4));
            LetterRepository x = Stores.full();
            Check.same("the last revision", x.pick(0, 23), 0);
        });
        s.state("the revision is the root, or a field blocks the picking", () -> {
            for (int b = 0; b < 4; b++) {
                int branch = b;
                Refused.state("root", Stores::small, x -> x.pick(branch, 0));
            }
            Refused.state("only the root", Stores::plain, x -> x.pick(0, 0));
            Check.same("revision 1", Stores.small().pick(1, 1), 1);
            for (int f = 0; f < 8; f++) {
                int field = f;
                Refused.state("one field in the way, the others free", () -> {
                    LetterRepository x = Stores.sides("mmmmmmmm", "abcdefgh", "mmmmmmmm");
                    x.edit(1, field, 'z');
                    return x;
                }, x -> x.pick(1, 2));
                LetterRepository x = Stores.sides("mmmmmmmm", "abcdefgh", "mmmmmmmm");
                x.edit(1, field, (char) ('a' + field));
                Check.same("the revision's letter is not in the way", x.pick(1, 2), 7);
            }
            Refused.state("the working document counts, not the head", () -> {
                LetterRepository x = Stores.small();
                x.edit(0, 0, 'q');
                return x;
            }, x -> x.pick(0, 1));
        });
    }

    private static void reset() {
        Sentences s = Sentences.promise(10);
        s.index("there is no such branch", () -> {
            Refused.index("reset", Stores::small, Refused.each(Refused.outside(4), b -> x -> x.reset(b, 1)));
            Refused.index("no revision", Stores::small, Refused.each(Refused.outside(6), b -> x -> x.reset(b, b)));
            Refused.index("archived", Stores::small, Refused.each(Refused.outside(4), b -> x -> x.reset(b, 4)));
            Check.same("the last branch", Stores.five().reset(4, 3), 0);
        });
        s.element("there is no such revision, or it is archived", () -> {
            Refused.element("reset", Stores::small, Refused.each(Refused.outside(6), r -> x -> x.reset(0, r)));
            Refused.element("reset", Stores::full, Refused.each(Refused.outside(24), r -> x -> x.reset(0, r)));
            Refused.element("edited", Stores::small, Refused.each(Refused.outside(6), r -> x -> x.reset(3, r)));
            Refused.element("archived", Stores::small, x -> x.reset(0, 4), x -> x.reset(1, 4), x -> x.reset(3, 4));
            LetterRepository x = Stores.full();
            Check.same("the first revision", x.reset(0, 0), 23);
            Check.same("the last revision", x.reset(0, 23), 0);
            Check.same("head", x.head(0), 23);
        });
        s.state("a field of the branch is edited", () -> {
            for (int f = 0; f < 8; f++) {
                int field = f;
                Refused.Recipe recipe = () -> {
                    LetterRepository x = Stores.small();
                    x.edit(0, field, 'z');
                    return x;
                };
                Refused.state("edited", recipe, x -> x.reset(0, 1), x -> x.reset(0, 3), x -> x.reset(0, 0));
                LetterRepository x = recipe.make();
                x.edit(0, field, x.letterIn(3, field));
                Check.same("edited back", x.reset(0, 1), 3);
                Check.same("branch", Check.branch(x, 0), "b0:1 baaaaaaa");
                Check.same("another branch is edited", x.editCount(3), 1);
            }
        });
    }

    private static void addTag() {
        Sentences s = Sentences.promise(11);
        s.test("`letter`: the letter of the tag, from A to Z", () -> {
            LetterRepository x = Stores.revisions(3);
            for (char tag = 'A'; tag <= 'Z'; tag++) {
                Check.same("addTag", x.addTag(tag, tag % 3), tag - 'A' + 1);
                Check.same("taggedRevision", x.taggedRevision(tag), tag % 3);
            }
            Refused.argument("addTag", Stores::small, y -> y.addTag('@', 1), y -> y.addTag('[', 1));
        });
        s.test("Returns the number of tags afterwards.", () -> {
            LetterRepository x = Stores.small();
            Check.same("third", x.addTag('Z', 0), 3);
            Check.same("fourth", x.addTag('B', 5), 4);
            x.removeTag('A');
            Check.same("fourth again", x.addTag('A', 5), 4);
        });
        s.argument("there is no such tag", () -> {
            Refused.characters("addTag", IllegalArgumentException.class, Stores::small, c -> c >= 'A' && c <= 'Z',
                    (x, c) -> x.addTag(c, 0));
            Refused.argument("no revision", Stores::small,
                    Refused.each(Refused.outside(6), r -> x -> x.addTag('a', r)));
            Refused.argument("archived", Stores::small, x -> x.addTag('@', 4), x -> x.addTag('[', 4),
                    x -> x.addTag((char) ('A' + 256), 4), x -> x.addTag((char) 0, 4));
        });
        s.element("there is no such revision, or it is archived", () -> {
            Refused.element("addTag", Stores::plain, Refused.each(Refused.outside(1), r -> x -> x.addTag('A', r)));
            Refused.element("addTag", Stores::small, Refused.each(Refused.outside(6), r -> x -> x.addTag('Z', r)));
            Refused.element("addTag", Stores::full, Refused.each(Refused.outside(24), r -> x -> x.addTag('Z', r)));
            Refused.element("taken", Stores::small, Refused.each(Refused.outside(6), r -> x -> x.addTag('A', r)));
            Refused.element("archived", Stores::small, x -> x.addTag('B', 4), x -> x.addTag('M', 4));
            Check.same("the last revision", Stores.full().addTag('Z', 23), 1);
        });
        s.state("the tag belongs to a revision", () -> {
            Refused.state("taken", Stores::small, Refused.each(new int[] {0, 1, 2, 3, 5}, r -> x -> x.addTag('A', r)));
            Refused.state("taken", Stores::small, Refused.each(new int[] {0, 1, 2, 3, 5}, r -> x -> x.addTag('M', r)));
            Check.same("the next tag", Stores.small().addTag('B', 1), 3);
            Refused.Recipe all = () -> {
                LetterRepository x = Stores.small();
                for (char tag = 'A'; tag <= 'Z'; tag++) {
                    if (tag != 'A' && tag != 'M') {
                        x.addTag(tag, 0);
                    }
                }
                return x;
            };
            int[] letters = new int[26];
            for (int i = 0; i < 26; i++) {
                letters[i] = 'A' + i;
            }
            Refused.state("all taken", all, Refused.each(letters, c -> x -> x.addTag((char) c, 1)));
            LetterRepository x = all.make();
            Check.same("removeTag", x.removeTag('Z'), 0);
            Check.same("free again", x.addTag('Z', 5), 26);
        });
    }

    private static void removeTag() {
        Sentences s = Sentences.promise(12);
        s.test("Returns the revision to which it belonged.", () -> {
            LetterRepository x = Stores.full();
            x.addTag('A', 0);
            x.addTag('Z', 23);
            Check.same("removeTag", x.removeTag('Z'), 23);
            Check.same("removeTag", x.removeTag('A'), 0);
            Check.same("tagCount", x.tagCount(), 0);
        });
        s.element("the tag belongs to no revision", () -> {
            Refused.characters("removeTag", NoSuchElementException.class, Stores::small, c -> c == 'A' || c == 'M',
                    (x, c) -> x.removeTag(c));
            Refused.element("removeTag", Stores::small, x -> x.removeTag('B'), x -> x.removeTag('Z'),
                    x -> x.removeTag('L'), x -> x.removeTag('N'), x -> x.removeTag('@'), x -> x.removeTag('['),
                    x -> x.removeTag('a'), x -> x.removeTag((char) 0), x -> x.removeTag((char) 65535));
            Refused.element("no tags", Stores::plain, x -> x.removeTag('A'), x -> x.removeTag('Z'));
            Refused.element("removed", () -> {
                LetterRepository x = Stores.small();
                x.removeTag('A');
                return x;
            }, x -> x.removeTag('A'));
        });
    }

    private static void archive() {
        Sentences s = Sentences.promise(13);
        s.test("Returns the number of revisions that become archived.", () -> {
            Check.same("new", new LetterRepository().archive(), 0);
            LetterRepository x = Stores.full();
            Check.same("all in use", x.archive(), 0);
            x.reset(0, 0);
            Check.same("a chain of 22", x.archive(), 22);
            Check.same("they are archived already", x.archive(), 0);
            x.reset(1, 0);
            Check.same("one more", x.archive(), 1);
            Check.same("usedCount", x.usedCount(), 1);
            Check.same("archivedShare", x.archivedShare(), 23.0f / 24);
        });
    }
}
