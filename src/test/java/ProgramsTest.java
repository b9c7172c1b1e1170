/** Promises 54 to 57: the input buffer and programs. */
final class ProgramsTest {
    private static final String[] COMMANDS = {
        "edit 00b", "revert 0", "commit 0 1", "branch 0", "branch 00", "close 1", "merge 01", "ours 01", "theirs 01",
        "pick 0 1", "pick 0 12", "reset 0 1", "reset 0 12", "tag A 1", "tag A 12", "untag A", "archive"};

    private ProgramsTest() {
    }

    static void all() {
        Sentences.promise(54).test("Appends a character to the input buffer.", ProgramsTest::append);
        Sentences.promise(55).test("Parses the contents of the input buffer as a program and executes it.",
                ProgramsTest::everyCommand);
        Check.test("promise 55: all or none", ProgramsTest::allOrNone);
        Check.test("promise 55: the buffer is empty afterwards", ProgramsTest::emptyAfterwards);
        Check.test("promise 55: the longest program", ProgramsTest::longest);
        Check.test("promise 56: error positions", ProgramsTest::errorPositions);
        Check.test("promise 56: each sign of each command", ProgramsTest::eachSign);
        Sentences.promise(56).test("Returns the stored error position.", ProgramsTest::errorStored);
        Sentences.promise(57).test("Returns the stored index of a failed command.", ProgramsTest::failedCommand);
        Check.test("promise 57: commands that fail", ProgramsTest::failures);
    }

    private static void append() {
        LetterRepository x = new LetterRepository();
        Check.same("space", x.append(' '), 1);
        Check.same("~", x.append('~'), 2);
        Check.argument("below", () -> x.append((char) 31));
        Check.argument("above", () -> x.append((char) 127));
        Check.argument("65535", () -> x.append((char) 65535));
        for (int i = 3; i <= 60; i++) {
            Check.same("append", x.append('x'), i);
        }
        Check.state("full", () -> x.append('x'));
        Check.argument("full and wrong", () -> x.append((char) 10));
        Check.argument("run", () -> x.run());
        Check.same("empty again", x.append('x'), 1);
    }

    private static void everyCommand() {
        LetterRepository x = new LetterRepository();
        Check.same("one", Check.run(x, "edit 00x"), 1);
        Check.same("edit", Check.branch(x, 0), "b0:0 Xaaaaaaa");
        Check.same("two", Check.run(x, "revert 0;edit 01y"), 2);
        Check.same("revert", Check.branch(x, 0), "b0:0 aYaaaaaa");
        Check.run(x, "commit 0 7");
        Check.same("commit", Check.revision(x, 1), "r1 ayaaaaaa @7 <0");
        Check.run(x, "branch 0;branch 01");
        Check.same("branch", x.head(1), 0);
        Check.same("branch", x.head(2), 1);
        Check.run(x, "close 2;edit 12z;commit 1 8;merge 01");
        Check.same("close", x.branchCount(), 2);
        Check.same("merge", Check.revision(x, 3), "r3 ayzaaaaa @8 <1+2");
        Check.run(x, "edit 00o;commit 0 1;edit 10t;commit 1 2;ours 01");
        Check.same("ours", Check.revision(x, 6), "r6 oyzaaaaa @2 <4+5");
        Check.run(x, "reset 0 4;theirs 01;tag A 07");
        Check.same("theirs", Check.revision(x, 7), "r7 tyzaaaaa @2 <4+5");
        Check.same("tag", x.taggedRevision('A'), 7);
        Check.run(x, "reset 0 0;pick 0 1");
        Check.same("reset and pick", Check.branch(x, 0), "b0:0 aYaaaaaa");
        Check.run(x, "close 1;pick 0 5");
        Check.same("no branch has the revision's number", Check.branch(x, 0), "b0:0 TYaaaaaa");
        Check.run(x, "untag A;archive");
        Check.same("untag", x.tagCount(), 0);
        Check.same("archive", x.isArchived(7), true);
    }

    private static void allOrNone() {
        LetterRepository x = Check.after("edit 00b;commit 0 1;tag A 1;edit 01q");
        String before = Check.everything(x);
        int undoable = x.undoableCount();
        Check.state("last one fails", () -> Check.run(x, "commit 0 2;tag B 2;branch 2;untag A;reset 0 0;close 9"));
        Check.same("failedCommand", x.failedCommand(), 5);
        Check.same("nothing changed", Check.everything(x), before);
        Check.same("undoableCount", x.undoableCount(), undoable);
        Check.argument("malformed at the end", () -> Check.run(x, "edit 00z;commit 0 2;x"));
        Check.same("nothing changed", Check.everything(x), before);
        Check.same("later commands see earlier ones", Check.run(x, "commit 0 2;branch 2;close 0;tag B 2"), 4);
        Check.same("branch", Check.branch(x, 0), "b0:2 bqaaaaaa");
    }

    private static void emptyAfterwards() {
        LetterRepository x = new LetterRepository();
        Check.run(x, "archive");
        Check.same("after success", x.append('q'), 1);
        Check.argument("malformed", () -> x.run());
        Check.same("after an error", x.append('c'), 1);
        Check.type(x, "lose 0");
        Check.state("fails", () -> x.run());
        Check.same("after a failure", x.append('q'), 1);
        Check.argument("malformed", () -> x.run());
        Check.argument("empty", () -> x.run());
        Check.same("errorPosition", x.errorPosition(), 0);
    }

    private static void longest() {
        LetterRepository x = new LetterRepository();
        Check.same("seven", Check.run(x, "archive;archive;archive;archive;archive;archive;archive"), 7);
        Check.same("one change", x.undoableCount(), 1);
        Check.same("60", Check.run(x, "edit 00b;commit 0 1;branch 01;pick 0 01;reset 0 01;branch 01"), 6);
        Check.same("branch", Check.branch(x, 2), "b2:1 baaaaaaa");
        Check.same("two changes", x.undoableCount(), 2);
    }

    private static void error(String text, int due) {
        LetterRepository x = new LetterRepository();
        Check.argument("run " + text, () -> Check.run(x, text));
        Check.same("errorPosition of " + text, x.errorPosition(), due);
        Check.same("undoableCount", x.undoableCount(), 0);
    }

    private static void errorPositions() {
        error("", 0);
        error(" ", 0);
        error(";", 0);
        error("Edit 00b", 0);
        error("e", 1);
        error("ex", 1);
        error("edit", 4);
        error("edit00b", 4);
        error("edit 0", 6);
        error("edit 0b", 6);
        error("edit 00", 7);
        error("edit 000", 7);
        error("edit 00A", 7);
        error("edit 00bb", 8);
        error("edit 00b;", 9);
        error("edit 00b; ", 9);
        error("edit 00b;;", 9);
        error("edit 00b ;", 8);
        error("re", 2);
        error("rexx", 2);
        error("revx", 3);
        error("resx", 3);
        error("revert 00", 8);
        error("comit 0 1", 3);
        error("commit 0", 8);
        error("commit 01", 8);
        error("commit 0 12", 10);
        error("clo", 3);
        error("cx", 1);
        error("branch", 6);
        error("branch ", 7);
        error("branch x", 7);
        error("branch 1x", 8);
        error("branch 123", 9);
        error("branch 12;", 10);
        error("merge 0 1", 7);
        error("ours 01 ", 7);
        error("theirz", 5);
        error("tx", 1);
        error("tag a 1", 4);
        error("tag A1", 5);
        error("tag AB", 5);
        error("tag A ", 6);
        error("tag A 1;tag A 123", 16);
        error("untag a", 6);
        error("untag A 1", 7);
        error("archive0", 7);
        error("archive;archiv", 14);
        error("archive;archivf", 14);
        error("pick 01", 6);
        error("pick 0 001", 9);
        error("reset 0 1 ", 9);
        error("edit ##$", 5);
        error("tag ^ *", 4);
        error("branch *", 7);
        error("archive;archive;archive;archive;archive;archive;archive;arch", 60);
        error("archive;archive;archive;archive;archive;archive;archive;arcx", 59);
    }

    /** Every command cut short, and every command with a sign put in its way. */
    private static void eachSign() {
        for (String command : COMMANDS) {
            for (int length = 0; length < command.length(); length++) {
                boolean isWhole = command.substring(0, length).matches("(branch|pick .|reset .|tag .) .");
                if (!isWhole) {
                    error(command.substring(0, length), length);
                    error("archive;" + command.substring(0, length), 8 + length);
                }
                error(command.substring(0, length) + "~" + command.substring(length + 1), length);
            }
            error(command + "~", command.length());
            error(command + ";", command.length() + 1);
        }
    }

    private static void errorStored() {
        LetterRepository x = new LetterRepository();
        Check.element("none so far", () -> x.errorPosition());
        Check.argument("malformed", () -> Check.run(x, "edit 0x"));
        Check.same("errorPosition", x.errorPosition(), 6);
        Check.run(x, "archive");
        Check.same("stays after success", x.errorPosition(), 6);
        Check.state("fails", () -> Check.run(x, "close 0"));
        Check.same("stays after a failure", x.errorPosition(), 6);
        x.undo();
        Check.same("stays after undo", x.errorPosition(), 6);
        x.save();
        Check.argument("malformed", () -> Check.run(x, "x"));
        x.restore();
        Check.same("the latest", x.errorPosition(), 0);
    }

    private static void failedCommand() {
        LetterRepository x = new LetterRepository();
        Check.element("none so far", () -> x.failedCommand());
        Check.argument("malformed", () -> Check.run(x, "close 0;"));
        Check.element("malformed is no failure", () -> x.failedCommand());
        Check.state("a method's own exception", () -> x.closeBranch(0));
        Check.element("no command", () -> x.failedCommand());
        Check.state("fails", () -> Check.run(x, "archive;close 0"));
        Check.same("failedCommand", x.failedCommand(), 1);
        Check.element("no error position", () -> new LetterRepository().errorPosition());
        Check.run(x, "archive");
        Check.same("stays", x.failedCommand(), 1);
        x.undo();
        Check.same("stays after undo", x.failedCommand(), 1);
        Check.state("fails", () -> Check.run(x, "close 1"));
        Check.same("the latest", x.failedCommand(), 0);
    }

    private static void fails(String program) {
        LetterRepository x = Check.after("edit 00b;commit 0 1;branch 0;edit 10c;commit 1 2;tag A 2;archive");
        String before = Check.everything(x);
        Check.state(program, () -> Check.run(x, "archive;" + program));
        Check.same("failedCommand of " + program, x.failedCommand(), 1);
        Check.same("nothing changed by " + program, Check.everything(x), before);
    }

    private static void failures() {
        String[] programs = {
            "edit 20b", "edit 08b", "edit 99z", "revert 2", "revert 9", "commit 0 1", "commit 2 1", "branch 3",
            "branch 24", "branch 99", "close 2", "merge 01", "merge 00", "merge 02", "merge 99", "ours 11",
            "theirs 22", "pick 0 0", "pick 0 2", "pick 2 1", "pick 0 99", "reset 0 03", "reset 9 00", "tag A 1",
            "tag B 3", "tag B 99", "untag B"};
        for (String program : programs) {
            fails(program);
        }
    }
}
