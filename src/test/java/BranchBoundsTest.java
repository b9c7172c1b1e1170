import java.util.NoSuchElementException;

/** Promises 31 to 44: their sentences with a boundary. */
final class BranchBoundsTest {
    private interface Ask {
        void of(LetterRepository x, int branch);
    }

    private interface AskPair {
        void of(LetterRepository x, int branch, int other);
    }

    private BranchBoundsTest() {
    }

    static void all() {
        branchCountAndHead();
        letterAt();
        isEdited();
        editCount();
        branchByHead();
        conflictCount();
        conflictAt();
        canMerge();
        mergedLetter();
        canPick();
        tags();
    }

    /** Refused for all that are no branches: in a store with one, with four and with five of them. */
    private static void noBranch(String name, Ask ask) {
        Refused.index(name, Stores::plain, Refused.each(Refused.outside(1), b -> x -> ask.of(x, b)));
        Refused.index(name, Stores::small, Refused.each(Refused.outside(4), b -> x -> ask.of(x, b)));
        Refused.index(name, Stores::five, Refused.each(Refused.outside(5), b -> x -> ask.of(x, b)));
    }

    private static void noneOfEither(String name, AskPair ask) {
        noBranch(name + ", first", (x, b) -> ask.of(x, b, 0));
        noBranch(name + ", second", (x, b) -> ask.of(x, 0, b));
        noBranch(name + ", both", (x, b) -> ask.of(x, b, b));
    }

    private static void bothTheSame(String name, AskPair ask) {
        Refused.argument(name, Stores::single, x -> ask.of(x, 0, 0));
        Refused.argument(name, Stores::small, Refused.each(new int[] {0, 1, 2, 3}, b -> x -> ask.of(x, b, b)));
        Refused.argument(name, Stores::five, Refused.each(new int[] {0, 1, 2, 3, 4}, b -> x -> ask.of(x, b, b)));
        Refused.argument(name, Stores::full, Refused.each(new int[] {0, 1, 2}, b -> x -> ask.of(x, b, b)));
    }

    private static void branchCountAndHead() {
        Sentences.promise(31).test("Returns the number, 1 to 5.", () -> {
            LetterRepository x = new LetterRepository();
            Check.same("new", x.branchCount(), 1);
            for (int count = 2; count <= 5; count++) {
                x.createBranch(0);
                Check.same("created", x.branchCount(), count);
            }
            Check.state("sixth", () -> x.createBranch(0));
            Check.same("still", x.branchCount(), 5);
            for (int count = 4; count >= 1; count--) {
                x.closeBranch(0);
                Check.same("closed", x.branchCount(), count);
            }
            Check.state("only one", () -> x.closeBranch(0));
            Check.same("still", x.branchCount(), 1);
        });
        Sentences.promise(32).index("there is no such branch", () -> {
            noBranch("head", (x, b) -> x.head(b));
            Check.same("the last branch", Stores.small().head(3), 0);
            Check.same("the last branch", Stores.five().head(4), 0);
            Check.same("the first branch", Stores.full().head(0), 23);
        });
    }

    private static void letterAt() {
        Sentences s = Sentences.promise(33);
        s.test("`field`: the field, 0 to 7", () -> {
            LetterRepository x = Stores.five();
            for (int field = 0; field < 8; field++) {
                x.edit(4, field, (char) ('s' + field));
            }
            for (int field = 0; field < 8; field++) {
                Check.same("letterAt", x.letterAt(4, field), (char) ('s' + field));
                Check.same("branch 2", x.letterAt(2, field), 'a');
            }
            Refused.index("letterAt", Stores::small, y -> y.letterAt(0, 8), y -> y.letterAt(0, -1));
        });
        s.index("there is no such branch or field", () -> {
            noBranch("letterAt", (x, b) -> x.letterAt(b, 0));
            noBranch("letterAt, no field", (x, b) -> x.letterAt(b, 8));
            Refused.index("field", Stores::five, Refused.each(Refused.outside(8), f -> x -> x.letterAt(4, f)));
            Refused.index("field", Stores::plain, Refused.each(Refused.outside(8), f -> x -> x.letterAt(0, f)));
        });
    }

    private static void isEdited() {
        Sentences s = Sentences.promise(34);
        s.test("`field`: the field, 0 to 7", () -> {
            for (int edited = 0; edited < 8; edited++) {
                LetterRepository x = Stores.small();
                x.edit(2, edited, 'q');
                for (int field = 0; field < 8; field++) {
                    Check.same("isEdited", x.isEdited(2, field), field == edited);
                    Check.same("another branch", x.isEdited(3, field), field == 7);
                }
            }
            Refused.index("isEdited", Stores::small, y -> y.isEdited(0, 8), y -> y.isEdited(0, -1));
        });
        s.index("there is no such branch or field", () -> {
            noBranch("isEdited", (x, b) -> x.isEdited(b, 0));
            noBranch("isEdited, no field", (x, b) -> x.isEdited(b, -1));
            Refused.index("field", Stores::five, Refused.each(Refused.outside(8), f -> x -> x.isEdited(4, f)));
            Refused.index("field", Stores::plain, Refused.each(Refused.outside(8), f -> x -> x.isEdited(0, f)));
        });
    }

    private static void editCount() {
        Sentences s = Sentences.promise(35);
        s.test("Returns the number of edited fields of a branch.", () -> {
            LetterRepository x = Stores.small();
            for (int field = 0; field < 8; field++) {
                Check.same("editCount", x.editCount(0), field);
                x.edit(0, field, 'q');
            }
            Check.same("all", x.editCount(0), 8);
            Check.same("another branch", x.editCount(3), 1);
            Check.same("another branch", x.editCount(1), 0);
        });
        s.index("there is no such branch", () -> noBranch("editCount", (x, b) -> x.editCount(b)));
    }

    private static String order(LetterRepository x) {
        StringBuilder order = new StringBuilder();
        for (int rank = 0; rank < x.branchCount(); rank++) {
            order.append(x.branchByHead(rank));
        }
        return order.toString();
    }

    private static void branchByHead() {
        Sentences s = Sentences.promise(36);
        s.test("Returns a branch by its rank in the order of heads: greater generation of the head first, then greater "
                + "number of the head, then lower number of the branch.", () -> {
            Check.same("heads 3 (of generation 2), 2, 5, 0", order(Stores.small()), "0213");
            Check.same("heads 2, 1, 0, 3, 0", order(Stores.five()), "30124");
            Check.same("heads 3, 4 (both of generation 2), 1", order(Stores.crossed()), "102");
            LetterRepository x = Stores.revisions(3);
            x.edit(0, 0, 'q');
            x.commit(0, 1);
            x.commit(2, 1);
            Check.same("heads 3 (of generation 2), 1, 4", order(x), "021");
            LetterRepository same = new LetterRepository();
            for (int b = 1; b < 5; b++) {
                same.createBranch(0);
            }
            Check.same("the same head", order(same), "01234");
        });
        s.test("`rank`: the rank, starting at 0", () -> {
            for (int count = 1; count <= 5; count++) {
                LetterRepository x = new LetterRepository();
                for (int b = 1; b < count; b++) {
                    x.createBranch(0);
                }
                Check.same("the first", x.branchByHead(0), 0);
                Check.same("the last", x.branchByHead(count - 1), count - 1);
                int none = count;
                Check.element("none", () -> x.branchByHead(none));
                Check.element("none", () -> x.branchByHead(-1));
            }
        });
        s.element("there is no such rank", () -> {
            Refused.element("branchByHead", Stores::plain,
                    Refused.each(Refused.outside(1), r -> x -> x.branchByHead(r)));
            Refused.element("branchByHead", Stores::small,
                    Refused.each(Refused.outside(4), r -> x -> x.branchByHead(r)));
            Refused.element("branchByHead", Stores::five,
                    Refused.each(Refused.outside(5), r -> x -> x.branchByHead(r)));
        });
    }

    /** Branches whose heads conflict in the fields that are marked by an x. */
    private static LetterRepository conflicts(String fields) {
        return Stores.sides("mmmmmmmm", fields.replace('-', 'm'), fields.replace('-', 'm').replace('x', 'y'));
    }

    private static void conflictCount() {
        Sentences s = Sentences.promise(37);
        s.test("Returns the number of fields that would be conflicts if the head of another branch was merged into a "
                + "branch.", () -> {
            Check.same("none", conflicts("--------").conflictCount(0, 1), 0);
            for (int count = 1; count <= 8; count++) {
                LetterRepository x = conflicts("xxxxxxxx".substring(0, count) + "--------".substring(count));
                Check.same("conflictCount", x.conflictCount(0, 1), count);
                Check.same("conflictCount", x.conflictCount(1, 0), count);
                x.edit(0, 0, 'q');
                x.edit(1, 7, 'q');
                Check.same("edits do not count", x.conflictCount(0, 1), count);
            }
            Check.same("an ancestor", Stores.small().conflictCount(0, 1), 0);
            Check.same("24 revisions", Stores.full().conflictCount(0, 1), 0);
        });
        s.index("there is no such branch, for either", () -> {
            noneOfEither("conflictCount", (x, b, o) -> x.conflictCount(b, o));
        });
        s.argument("both are the same", () -> {
            bothTheSame("conflictCount", (x, b, o) -> x.conflictCount(b, o));
        });
    }

    private static void conflictAt() {
        Sentences s = Sentences.promise(38);
        s.test("`position`: the position, starting at 0", () -> {
            String[] places = {"--------", "x-------", "-------x", "-xx---x-", "xxxxxxxx"};
            for (String fields : places) {
                LetterRepository x = conflicts(fields);
                int position = 0;
                for (int field = 0; field < 8; field++) {
                    if (fields.charAt(field) == 'x') {
                        Check.same("position " + position + " of " + fields, x.conflictAt(0, 1, position), field);
                        Check.same("the other way", x.conflictAt(1, 0, position), field);
                        position++;
                    }
                }
                int none = position;
                Check.element("position " + none + " of " + fields, () -> x.conflictAt(0, 1, none));
                Check.element("position -1", () -> x.conflictAt(0, 1, -1));
            }
        });
        s.index("there is no such branch, for either", () -> {
            noneOfEither("conflictAt", (x, b, o) -> x.conflictAt(b, o, 0));
            noneOfEither("conflictAt, no position", (x, b, o) -> x.conflictAt(b, o, -1));
        });
        s.argument("both are the same", () -> {
            bothTheSame("conflictAt", (x, b, o) -> x.conflictAt(b, o, 0));
            bothTheSame("conflictAt, no position", (x, b, o) -> x.conflictAt(b, o, 8));
        });
        s.element("there is no such position", () -> {
            Refused.element("1", Stores::small, Refused.each(Refused.outside(1), p -> x -> x.conflictAt(0, 2, p)));
            Refused.element("0", Stores::small, Refused.each(Refused.outside(0), p -> x -> x.conflictAt(0, 1, p)));
            Refused.Recipe eight = () -> conflicts("xxxxxxxx");
            Refused.element("8", eight, Refused.each(Refused.outside(8), p -> x -> x.conflictAt(0, 1, p)));
            Refused.Recipe two = () -> conflicts("x------x");
            Refused.element("2", two, Refused.each(Refused.outside(2), p -> x -> x.conflictAt(1, 0, p)));
        });
    }

    private static void canMerge() {
        Sentences s = Sentences.promise(39);
        s.test("Returns whether merge would return normally now.", () -> {
            Refused.Recipe[] recipes = {Stores::small, Stores::five, Stores::crossed, Stores::full,
                () -> Stores.revisions(23), () -> conflicts("--------"), () -> conflicts("x-------"),
                () -> conflicts("-------x"), () -> Stores.sides("aaaaaaaa", "baaaaaaa", "aaaaaaac")};
            int possible = 0;
            for (Refused.Recipe recipe : recipes) {
                int count = recipe.make().branchCount();
                for (int i = 0; i < count * count; i++) {
                    int branch = i / count;
                    int other = i % count;
                    if (branch != other) {
                        boolean can = recipe.make().canMerge(branch, other);
                        LetterRepository x = recipe.make();
                        String answer = Refused.answer(() -> x.merge(branch, other));
                        Check.same("canMerge, where merge answers " + answer, can, answer.matches("\\d+ "));
                        possible += can ? 1 : 0;
                    }
                }
            }
            Check.same("some can be merged", possible > 9, true);
            Check.same("23 revisions", Stores.revisions(23).canMerge(0, 1), true);
            Check.same("24 revisions", Stores.full().canMerge(0, 1), false);
            Check.same("asking is no merge", Refused.content(asked()), Refused.content(Stores.revisions(23)));
        });
        s.index("there is no such branch, for either", () -> {
            noneOfEither("canMerge", (x, b, o) -> x.canMerge(b, o));
        });
        s.argument("both are the same", () -> {
            bothTheSame("canMerge", (x, b, o) -> x.canMerge(b, o));
        });
    }

    private static LetterRepository asked() {
        LetterRepository x = Stores.revisions(23);
        x.canMerge(0, 1);
        x.canPick(0, 1);
        return x;
    }

    private static void mergedLetter() {
        Sentences s = Sentences.promise(40);
        s.test("`field`: the field, 0 to 7", () -> {
            LetterRepository x = Stores.sides("mmmmmmmm", "abcdmmmm", "mmmmefgh");
            for (int field = 0; field < 8; field++) {
                Check.same("mergedLetter", x.mergedLetter(0, 1, field), (char) ('a' + field));
                Check.same("the other way", x.mergedLetter(1, 0, field), (char) ('a' + field));
            }
            Refused.index("mergedLetter", Stores::small, y -> y.mergedLetter(0, 2, 8), y -> y.mergedLetter(0, 2, -1));
        });
        s.test("Returns the letter that a field would get in a merge, whether the branches are edited or not.", () -> {
            LetterRepository x = Stores.sides("mmmmmmmm", "abcdmmmm", "mmmmefgh");
            x.edit(0, 0, 'z');
            x.edit(1, 0, 'y');
            x.edit(0, 7, 'x');
            Check.same("an edited field of ours", x.mergedLetter(0, 1, 0), 'a');
            Check.same("an edited field of theirs", x.mergedLetter(0, 1, 7), 'h');
            Check.same("24 revisions", Stores.full().mergedLetter(0, 1, 7), 'b');
            Check.same("an ancestor", Stores.small().mergedLetter(0, 1, 0), 'b');
        });
        s.index("there is no such branch, for either, or no such field", () -> {
            noneOfEither("mergedLetter", (x, b, o) -> x.mergedLetter(b, o, 0));
            noneOfEither("mergedLetter, no field", (x, b, o) -> x.mergedLetter(b, o, 8));
            Refused.index("field", Stores::small, Refused.each(Refused.outside(8), f -> x -> x.mergedLetter(0, 1, f)));
            Refused.index("same", Stores::small, Refused.each(Refused.outside(8), f -> x -> x.mergedLetter(0, 0, f)));
            Refused.index("full", Stores::full, Refused.each(Refused.outside(8), f -> x -> x.mergedLetter(1, 0, f)));
        });
        s.argument("both are the same", () -> {
            bothTheSame("mergedLetter", (x, b, o) -> x.mergedLetter(b, o, 0));
            bothTheSame("mergedLetter", (x, b, o) -> x.mergedLetter(b, o, 7));
        });
        s.element("the field would be a conflict", () -> {
            for (int field = 0; field < 8; field++) {
                String fields = "-------".substring(0, field) + "x" + "-------".substring(field);
                int at = field;
                Refused.element("one", () -> conflicts(fields), x -> x.mergedLetter(0, 1, at),
                        x -> x.mergedLetter(1, 0, at));
                LetterRepository x = conflicts(fields);
                for (int other = 0; other < 8; other++) {
                    if (other != field) {
                        Check.same("the others", x.mergedLetter(0, 1, other), 'm');
                    }
                }
            }
            Refused.element("all", () -> conflicts("xxxxxxxx"),
                    Refused.each(new int[] {0, 1, 2, 3, 4, 5, 6, 7}, f -> x -> x.mergedLetter(0, 1, f)));
        });
    }

    private static void canPick() {
        Sentences s = Sentences.promise(41);
        s.test("Returns whether pick would return normally now.", () -> {
            Refused.Recipe[] recipes = {Stores::small, Stores::five, Stores::crossed, Stores::single,
                () -> conflicts("x------x"), () -> Stores.revisions(9)};
            int possible = 0;
            for (Refused.Recipe recipe : recipes) {
                int branches = recipe.make().branchCount();
                int revisions = recipe.make().revisionCount();
                for (int i = 0; i < branches * revisions; i++) {
                    int branch = i / revisions;
                    int revision = i % revisions;
                    boolean can = recipe.make().canPick(branch, revision);
                    LetterRepository x = recipe.make();
                    String answer = Refused.answer(() -> x.pick(branch, revision));
                    Check.same("canPick, where pick answers " + answer, can, answer.matches("\\d+ "));
                    possible += can ? 1 : 0;
                }
            }
            Check.same("some can be picked", possible > 9, true);
            Check.same("archived", Stores.small().canPick(0, 4), false);
            Check.same("archived, the only one", Stores.single().canPick(0, 1), false);
            Check.same("the root", Stores.small().canPick(0, 0), false);
            Check.same("24 revisions", Stores.full().canPick(1, 23), false);
            Check.same("24 revisions", Stores.full().canPick(1, 2), true);
        });
        s.index("there is no such branch", () -> {
            noBranch("canPick", (x, b) -> x.canPick(b, 0));
            noBranch("canPick, no revision", (x, b) -> x.canPick(b, 24));
        });
        s.element("there is no such revision", () -> {
            Refused.element("canPick", Stores::plain, Refused.each(Refused.outside(1), r -> x -> x.canPick(0, r)));
            Refused.element("canPick", Stores::small, Refused.each(Refused.outside(6), r -> x -> x.canPick(3, r)));
            Refused.element("canPick", Stores::full, Refused.each(Refused.outside(24), r -> x -> x.canPick(0, r)));
            Check.same("the last one", Stores.full().canPick(0, 23), true);
        });
    }

    private static void tags() {
        Sentences.promise(42).test("Returns the number of tags that belong to revisions.", () -> {
            LetterRepository x = Stores.single();
            for (int count = 0; count < 26; count++) {
                Check.same("tagCount", x.tagCount(), count);
                x.addTag((char) ('Z' - count), 0);
            }
            Check.same("all", x.tagCount(), 26);
            Check.state("one more", () -> x.addTag('A', 0));
            Check.same("still", x.tagCount(), 26);
            for (int count = 25; count >= 0; count--) {
                x.removeTag((char) ('Z' - count));
                Check.same("tagCount", x.tagCount(), count);
            }
            Check.element("one more", () -> x.removeTag('A'));
            Check.same("none", x.tagCount(), 0);
        });
        Sentences s = Sentences.promise(43);
        s.test("`letter`: any character", () -> {
            Refused.characters("taggedRevision", NoSuchElementException.class, Stores::small,
                    c -> c == 'A' || c == 'M', (x, c) -> x.taggedRevision(c));
            Check.same("A", Stores.small().taggedRevision('A'), 1);
            Check.same("M", Stores.small().taggedRevision('M'), 3);
        });
        s.element("there is no such tag, or it belongs to no revision", () -> {
            Refused.element("no such tag", Stores::small, x -> x.taggedRevision('@'), x -> x.taggedRevision('['),
                    x -> x.taggedRevision('a'), x -> x.taggedRevision('m'), x -> x.taggedRevision((char) 0),
                    x -> x.taggedRevision((char) 65535), x -> x.taggedRevision((char) ('A' + 256)));
            Refused.element("no revision", Stores::small, x -> x.taggedRevision('B'), x -> x.taggedRevision('L'),
                    x -> x.taggedRevision('N'), x -> x.taggedRevision('Z'));
            LetterRepository x = Stores.full();
            x.addTag('Z', 23);
            Check.same("the last one", x.taggedRevision('Z'), 23);
            x.removeTag('Z');
            Check.element("removed", () -> x.taggedRevision('Z'));
        });
        tagOf();
    }

    private static void tagOf() {
        Sentences s = Sentences.promise(44);
        s.test("Returns the first tag of a revision in the order of letters.", () -> {
            LetterRepository x = Stores.revisions(3);
            for (char tag = 'Z'; tag >= 'A'; tag--) {
                x.addTag(tag, 2);
                Check.same("tagOf", x.tagOf(2), tag);
            }
            for (char tag = 'A'; tag < 'Z'; tag++) {
                x.removeTag(tag);
                x.addTag(tag, 1);
                Check.same("the next one", x.tagOf(2), (char) (tag + 1));
                Check.same("of revision 1", x.tagOf(1), 'A');
            }
        });
        s.element("there is no such revision, or it has no tags", () -> {
            Refused.element("tagOf", Stores::plain, Refused.each(Refused.outside(0), r -> x -> x.tagOf(r)));
            Refused.element("tagOf", Stores::small, Refused.each(Refused.outside(6), r -> x -> x.tagOf(r)));
            Refused.element("tagOf", Stores::full, Refused.each(Refused.outside(24), r -> x -> x.tagOf(r)));
            Refused.element("no tags", Stores::small, Refused.each(new int[] {0, 2, 4, 5}, r -> x -> x.tagOf(r)));
            Check.same("tagOf", Stores.small().tagOf(1), 'A');
            Check.same("tagOf", Stores.small().tagOf(3), 'M');
        });
    }
}
