import java.util.LinkedHashMap;
import java.util.Map;

/** Calls that return normally: what they are not said to change stays as it was. */
final class AnsweredTest {
    private AnsweredTest() {
    }

    static void all() {
        Check.test("nothing is stored by what makes a store", AnsweredTest::unmarked);
        Check.test("questions leave everything", AnsweredTest::questions);
        Check.test("formatting leaves all but the line", AnsweredTest::formatting);
        Check.test("append leaves all but the buffer", () -> onBoth("append", x -> x.append('a'), "buffer", "program"));
        Check.test("changes leave what is no part of the store", AnsweredTest::changes);
        Check.test("programs leave what is no part of the store, but for the buffer", AnsweredTest::programs);
        Check.test("programs that are refused leave all but the buffer and one position",
                AnsweredTest::refusedPrograms);
        Check.test("undo leaves what is no part of the store", AnsweredTest::undo);
        Check.test("save leaves all but the saved copy", () -> onBoth("save", x -> x.save(), "saved"));
        Check.test("restore leaves what is no part of the store", AnsweredTest::restore);
    }

    private static void unmarked() {
        LetterRepository x = Stores.unmarked();
        Check.state("no saved copy", x::restore);
        Check.element("no error position", x::errorPosition);
        Check.element("no failed command", x::failedCommand);
        Check.same("an empty line", Refused.line(x), "");
        emptied("what makes a store", x);
    }

    /** On a store with everything that can be stored, and on one with nothing of it. */
    private static void onBoth(String name, Refused.Call call, String... others) {
        Sides.sameBut(name, Stores::small, call, others);
        Sides.sameBut(name + ", unmarked", Stores::unmarked, call, others);
    }

    private static Map<String, Refused.Call> ask() {
        Map<String, Refused.Call> ask = new LinkedHashMap<>();
        ask.put("revisionCount", x -> x.revisionCount());
        ask.put("isArchived", x -> x.isArchived(4));
        ask.put("firstParent", x -> x.firstParent(3));
        ask.put("secondParent", x -> x.secondParent(3));
        ask.put("authorOf", x -> x.authorOf(2));
        ask.put("generation", x -> x.generation(3));
        ask.put("letterIn", x -> x.letterIn(3, 1));
        ask.put("isAncestor", x -> x.isAncestor(1, 3));
        ask.put("ancestorCount", x -> x.ancestorCount(3));
        ask.put("commonAncestor", x -> x.commonAncestor(3, 2));
        ask.put("commonAncestorBySets", x -> x.commonAncestorBySets(3, 2));
        ask.put("distance", x -> x.distance(4, 5));
        ask.put("differences", x -> x.differences(4, 5));
        ask.put("originOf", x -> x.originOf(4, 1));
        ask.put("originByRecursion", x -> x.originByRecursion(4, 1));
        ask.put("revisionsBy", x -> x.revisionsBy(2));
        ask.put("busiestAuthor", x -> x.busiestAuthor());
        ask.put("branchCount", x -> x.branchCount());
        ask.put("head", x -> x.head(2));
        ask.put("letterAt", x -> x.letterAt(3, 7));
        ask.put("isEdited", x -> x.isEdited(3, 7));
        ask.put("editCount", x -> x.editCount(3));
        ask.put("branchByHead", x -> x.branchByHead(3));
        ask.put("conflictCount", x -> x.conflictCount(0, 2));
        ask.put("conflictAt", x -> x.conflictAt(0, 2, 0));
        ask.put("canMerge, true", x -> x.canMerge(1, 2));
        ask.put("canMerge, false", x -> x.canMerge(0, 2));
        ask.put("mergedLetter", x -> x.mergedLetter(0, 2, 7));
        ask.put("canPick, true", x -> x.canPick(3, 1));
        ask.put("canPick, false", x -> x.canPick(2, 1));
        ask.put("tagCount", x -> x.tagCount());
        ask.put("taggedRevision", x -> x.taggedRevision('M'));
        ask.put("tagOf", x -> x.tagOf(3));
        ask.put("usedCount", x -> x.usedCount());
        ask.put("usedCountByMarks", x -> x.usedCountByMarks());
        ask.put("meanGeneration", x -> x.meanGeneration());
        ask.put("archivedShare", x -> x.archivedShare());
        ask.put("isConsistent", x -> x.isConsistent());
        ask.put("undoableCount", x -> x.undoableCount());
        return ask;
    }

    private static void questions() {
        ask().forEach((name, call) -> onBoth(name, call));
        for (Refused.Recipe recipe : new Refused.Recipe[] {Stores::small, AnsweredTest::unsaved}) {
            Sides.allSame("lineChar", recipe, x -> x.lineChar(3));
            Sides.allSame("errorPosition", recipe, x -> x.errorPosition());
            Sides.allSame("failedCommand", recipe, x -> x.failedCommand());
        }
        Sides.allSame("all of them", Stores::small, x -> ask().forEach((name, call) -> call.on(x)));
    }

    /** A line and both positions are stored, but no copy is saved. */
    private static LetterRepository unsaved() {
        LetterRepository x = Stores.unmarked();
        Check.argument("malformed", () -> Check.run(x, "tagA"));
        Check.state("fails", () -> Check.run(x, "archive;close 9"));
        x.formatBranch(3);
        return x;
    }

    private static void formatting() {
        onBoth("formatRevision", x -> x.formatRevision(4), "line");
        onBoth("formatBranch", x -> x.formatBranch(3), "line");
        onBoth("formatMerge", x -> x.formatMerge(0, 2), "line");
    }

    private static void change(String name, Refused.Recipe recipe, Refused.Call change, String... others) {
        String[] changed = new String[others.length + 4];
        System.arraycopy(others, 0, changed, 0, others.length);
        System.arraycopy(new String[] {"content", "derived", "count", "undo"}, 0, changed, others.length, 4);
        Sides.sameBut(name, recipe, change, changed);
        Sides.undoneOneByOne(name, recipe, change);
    }

    private static void changeOnBoth(String name, Refused.Call change) {
        change(name, Stores::small, change, "program");
        change(name + ", unmarked", Stores::unmarked, change, "program");
    }

    private static void changes() {
        changeOnBoth("edit", x -> x.edit(0, 0, 'q'));
        changeOnBoth("revert", x -> x.revert(3));
        changeOnBoth("commit", x -> x.commit(3, 9));
        changeOnBoth("createBranch", x -> x.createBranch(5));
        changeOnBoth("closeBranch", x -> x.closeBranch(0));
        changeOnBoth("merge", x -> x.merge(1, 2));
        changeOnBoth("mergeKeeping ours", x -> x.mergeKeeping(0, 2, true));
        changeOnBoth("mergeKeeping theirs", x -> x.mergeKeeping(0, 2, false));
        changeOnBoth("pick", x -> x.pick(3, 1));
        changeOnBoth("reset", x -> x.reset(0, 0));
        changeOnBoth("addTag", x -> x.addTag('Z', 0));
        changeOnBoth("removeTag", x -> x.removeTag('A'));
        changeOnBoth("archive", x -> x.archive());
        changeOnBoth("edit without effect", x -> x.edit(3, 7, 'z'));
        changeOnBoth("revert without effect", x -> x.revert(0));
        changeOnBoth("pick without effect", x -> x.pick(0, 1));
        changeOnBoth("reset without effect", x -> x.reset(0, 3));
    }

    private static Refused.Recipe typed(Refused.Recipe recipe, String text) {
        return () -> {
            LetterRepository x = recipe.make();
            Check.type(x, text);
            return x;
        };
    }

    private static void emptied(String name, LetterRepository x) {
        Check.same("the buffer behind " + name, x.append('a'), 1);
    }

    private static void programs() {
        String[] programs = {"edit 00q", "revert 3", "commit 3 9", "branch 05", "close 0", "merge 12", "ours 02",
            "theirs 02", "pick 3 1", "reset 0 0", "tag Z 0", "untag A", "archive", "edit 37z", "revert 0",
            "revert 3;edit 00q;commit 0 1;tag B 6;reset 0 3;archive"};
        for (String program : programs) {
            Refused.Recipe recipe = typed(Stores::unmarked, program);
            change(program, recipe, x -> x.run(), "buffer", "program");
            LetterRepository x = recipe.make();
            x.run();
            emptied(program, x);
        }
        Refused.Recipe marked = typed(Stores::small, "vert 3;archive");
        change("run, marked", marked, x -> x.run(), "buffer", "program");
        LetterRepository x = marked.make();
        x.run();
        emptied("run, marked", x);
    }

    private static void refusedPrograms() {
        Refused.Recipe[] recipes = {Stores::small, Stores::unmarked};
        for (Refused.Recipe recipe : recipes) {
            Refused.Recipe malformed = typed(recipe, "vert 3;archiv");
            Refused.Call run = x -> Check.argument("malformed", x::run);
            Sides.sameBut("a malformed program", malformed, run, "buffer", "program", "error");
            LetterRepository x = malformed.make();
            run.on(x);
            emptied("a malformed program", x);
        }
        Refused.Call run = x -> Check.state("fails", x::run);
        Refused.Recipe marked = typed(Stores::small, "vert 3;archive;close 4");
        Sides.sameBut("a program that fails", marked, run, "buffer", "program", "failed");
        Refused.Recipe unmarked = typed(Stores::unmarked, "revert 3;archive;close 4");
        Sides.sameBut("a program that fails, unmarked", unmarked, run, "buffer", "program", "failed");
        LetterRepository x = marked.make();
        run.on(x);
        emptied("a program that fails", x);
    }

    private static void undo() {
        for (int undone = 1; undone <= 8; undone++) {
            int count = undone;
            onBoth("undo " + count, x -> {
                for (int i = 0; i < count; i++) {
                    x.undo();
                }
            }, "content", "derived", "count", "undo", "program");
        }
    }

    private static void restore() {
        Sides.sameBut("restore", Stores::small, x -> x.restore(), "content", "derived", "count", "undo", "program");
        Refused.Recipe saved = () -> {
            LetterRepository x = Stores.unmarked();
            x.save();
            return x;
        };
        Sides.sameBut("restore at once", saved, x -> x.restore(), "count", "undo");
    }
}
