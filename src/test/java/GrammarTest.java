/** The sentences of the document's terms about commands, and promises 54 to 57: their sentences with a boundary. */
final class GrammarTest {
    private static final Sentences TERMS = Sentences.of("Terms");
    private static final String FULL = "edit 00b;commit 0 1;branch 01;pick 0 01;reset 0 01;branch 01";
    /** Each command, and those with a number in both forms. */
    private static final String[] COMMANDS = {"edit 34m", "revert 5", "commit 6 7", "branch 8", "branch 19", "close 0",
        "merge 12", "ours 34", "theirs 56", "pick 7 8", "pick 9 01", "reset 2 3", "reset 4 56", "tag Q 7", "tag Q 89",
        "untag M", "archive"};

    private GrammarTest() {
    }

    static void all() {
        TERMS.test("The input buffer holds up to 60 characters.", GrammarTest::upTo60);
        TERMS.test("A program in the input buffer has this grammar, where { x } means zero or more repetitions of x and "
                + "a vertical bar separates alternatives:", GrammarTest::grammar);
        TERMS.test("program = command { \";\" command }", GrammarTest::program);
        TERMS.test("command = \"edit \" digit digit letter | \"revert \" digit | \"commit \" digit \" \" digit | "
                + "\"branch \" number | \"close \" digit | \"merge \" digit digit | \"ours \" digit digit | \"theirs \" "
                + "digit digit | \"pick \" digit \" \" number | \"reset \" digit \" \" number | \"tag \" capital \" \" "
                + "number | \"untag \" capital | \"archive\"", GrammarTest::command);
        TERMS.test("number = digit | digit digit", GrammarTest::number);
        TERMS.test("A letter is from a to z, a capital from A to Z.", GrammarTest::letters);
        TERMS.test("The commands correspond to the methods edit, revert, commit, createBranch, closeBranch, merge, "
                + "mergeKeeping with true (ours) and with false (theirs), pick, reset, addTag, removeTag and archive, "
                + "with their other arguments in the same order.", GrammarTest::methods);
        TERMS.test("The error position of a malformed program is the index of the first character that no valid program "
                + "can have there after the characters before it, or the length of the program if it is a proper prefix "
                + "of a valid program.", GrammarTest::errorPosition);
        TERMS.test("Keywords are matched letter by letter.", GrammarTest::keywords);
        append();
        run();
        stored();
    }

    /** A store with nothing but one edit, and with these characters in the input buffer. */
    private static LetterRepository typed(String text) {
        LetterRepository x = Stores.plain();
        Check.type(x, text);
        return x;
    }

    private static void upTo60() {
        LetterRepository x = new LetterRepository();
        for (int i = 0; i < 60; i++) {
            Check.same("append", x.append(FULL.charAt(i)), i + 1);
        }
        Refused.state("character 61", () -> typed(FULL), y -> y.append(';'), y -> y.append('e'));
        Check.state("character 61", () -> x.append(';'));
        Check.same("the 60 characters", x.run(), 6);
        Check.same("branch", Check.branch(x, 2), "b2:1 baaaaaaa");
        Check.same("the buffer is empty", x.append('e'), 1);
        Check.same("59 characters and one more", typed(FULL.substring(0, 59)).append('1'), 60);
    }

    /** Runs a text on a store, and compares what comes of it with the grammar. */
    private static void compare(LetterRepository x, String text) {
        Check.type(x, text);
        String answer = Refused.answer(x::run).trim();
        if (PlainRepository.isProgram(text)) {
            boolean isDue = answer.equals("IllegalStateException") || answer.matches("[1-7]");
            Check.same(text + " is a program, " + answer, isDue, true);
        } else {
            Check.same(text, answer, "IllegalArgumentException");
            Check.same("errorPosition of " + text, x.errorPosition(), PlainRepository.errorIn(text));
        }
    }

    private static void grammar() {
        for (String first : COMMANDS) {
            for (String second : COMMANDS) {
                LetterRepository x = new LetterRepository();
                String text = first + ";" + second;
                compare(x, text);
                compare(x, text + ";");
                compare(x, ";" + text);
                compare(x, first + second);
                compare(x, first + " " + second);
                compare(x, text.substring(0, text.length() - 1));
            }
        }
        Check.same("each is a program", PlainRepository.isProgram(String.join(";", COMMANDS)), true);
    }

    private static void malformed(String text, int position) {
        LetterRepository x = new LetterRepository();
        Check.type(x, text);
        Check.argument("run " + text, () -> x.run());
        Check.same("errorPosition of " + text, x.errorPosition(), position);
    }

    private static void program() {
        StringBuilder text = new StringBuilder();
        for (int count = 1; count <= 7; count++) {
            text.append(count == 1 ? "" : ";").append("archive");
            LetterRepository x = new LetterRepository();
            Check.same("commands", Check.run(x, text.toString()), count);
            Check.same("one change", x.undoableCount(), 1);
            malformed(text + ";", text.length() + 1);
            malformed(";" + text, 0);
            malformed(text + ".", text.length());
            malformed(text + " ", text.length());
            malformed(" " + text, 0);
        }
        malformed("", 0);
        malformed(";", 0);
        malformed("archive;;archive", 8);
        malformed("archive; archive", 8);
        malformed("archive ;archive", 7);
        malformed("archive,archive", 7);
        malformed("archivearchive", 7);
        malformed(text + ";arc", 59);
        malformed(text + ";arch", 60);
        malformed(text + ";arcx", 59);
        malformed(text + ";;;;;", 56);
    }

    /** Each printable sign at each place of each command: in the place of the sign there, and before it. */
    private static void command() {
        for (String command : COMMANDS) {
            for (int place = 0; place <= command.length(); place++) {
                LetterRepository x = new LetterRepository();
                for (char sign = ' '; sign <= '~'; sign++) {
                    if (sign % 12 == 0) {
                        x = new LetterRepository();
                    }
                    String before = command.substring(0, place);
                    compare(x, before + sign + command.substring(place));
                    compare(x, before + sign + command.substring(Math.min(place + 1, command.length())));
                }
            }
            for (int length = 0; length < command.length(); length++) {
                compare(new LetterRepository(), command.substring(0, length));
            }
        }
    }

    private static void number() {
        for (int number = 0; number < 100; number++) {
            String two = number < 10 ? "0" + number : String.valueOf(number);
            for (String text : number < 10 ? new String[] {two, String.valueOf(number)} : new String[] {two}) {
                LetterRepository x = new LetterRepository();
                for (int r = 1; r < 24; r++) {
                    x.edit(0, 0, (char) ('a' + r));
                    x.commit(0, 0);
                }
                int due = number;
                if (number < 24) {
                    Check.same("run", Check.run(x, "reset 0 " + text + ";branch " + text), 2);
                    Check.same("head after reset 0 " + text, x.head(0), due);
                    Check.same("head after branch " + text, x.head(1), due);
                    Check.same("run", Check.run(x, "tag A " + text), 1);
                    Check.same("taggedRevision after tag A " + text, x.taggedRevision('A'), due);
                } else {
                    Check.state("reset 0 " + text, () -> Check.run(x, "reset 0 " + text));
                    Check.state("branch " + text, () -> Check.run(x, "branch " + text));
                    Check.state("pick 0 " + text, () -> Check.run(x, "pick 0 " + text));
                    Check.state("tag A " + text, () -> Check.run(x, "tag A " + text));
                }
            }
        }
        String[] starts = {"branch ", "pick 0 ", "reset 0 ", "tag A "};
        for (String start : starts) {
            malformed(start, start.length());
            malformed(start + "000", start.length() + 2);
            malformed(start + "123", start.length() + 2);
            malformed(start + "-1", start.length());
            malformed(start + " 1", start.length());
            malformed(start + "1 ", start.length() + 1);
            malformed(start + "/", start.length());
            malformed(start + ":", start.length());
            malformed(start + "1/", start.length() + 1);
            malformed(start + "1:", start.length() + 1);
        }
    }

    private static void letters() {
        for (char sign = ' '; sign <= '~'; sign++) {
            boolean isLetter = sign >= 'a' && sign <= 'z';
            boolean isCapital = sign >= 'A' && sign <= 'Z';
            letter("edit 00" + sign, 7, isLetter);
            letter("tag " + sign + " 0", 4, isCapital);
            letter("tag A 0;untag " + sign, 14, isCapital);
        }
    }

    private static void letter(String text, int position, boolean isValid) {
        if (isValid) {
            LetterRepository x = new LetterRepository();
            String answer = Refused.answer(() -> Check.run(x, text)).trim();
            Check.same(text + " is no malformed program", answer.equals("IllegalArgumentException"), false);
            Check.element("errorPosition", () -> x.errorPosition());
        } else {
            malformed(text, position);
        }
    }

    private static void methods() {
        for (int n = 0; n < 100; n++) {
            int first = n / 10;
            int second = n % 10;
            char letter = (char) ('a' + n % 26);
            char capital = (char) ('A' + n % 26);
            method("edit " + first + second + letter, x -> x.edit(first, second, letter));
            method("commit " + first + " " + second, x -> x.commit(first, second));
            method("merge " + first + second, x -> x.merge(first, second));
            method("ours " + first + second, x -> x.mergeKeeping(first, second, true));
            method("theirs " + first + second, x -> x.mergeKeeping(first, second, false));
            method("pick " + first + " " + second, x -> x.pick(first, second));
            method("reset " + first + " 0" + second, x -> x.reset(first, second));
            method("tag " + capital + " " + second, x -> x.addTag(capital, second));
            if (n < 26) {
                method("untag " + capital, x -> x.removeTag(capital));
            }
            if (n < 10) {
                method("revert " + n, x -> x.revert(second));
                method("branch " + n, x -> x.createBranch(second));
                method("branch 0" + n, x -> x.createBranch(second));
                method("close " + n, x -> x.closeBranch(second));
            }
        }
        method("archive", x -> x.archive());
    }

    /** A store in which each of the methods can do something. */
    private static LetterRepository unarchived() {
        LetterRepository x = Stores.small();
        Check.argument("the buffer is emptied", () -> x.run());
        x.edit(0, 6, 'g');
        x.commit(0, 5);
        x.reset(0, 3);
        return x;
    }

    private static void method(String command, Refused.Call call) {
        LetterRepository x = unarchived();
        LetterRepository y = unarchived();
        boolean isRefused = !Refused.answer(() -> Check.run(x, command)).equals("1 ");
        boolean isDue = false;
        try {
            call.on(y);
        } catch (RuntimeException e) {
            isDue = true;
        }
        Check.same(command + " is refused", isRefused, isDue);
        Check.same("the store after " + command, Refused.content(x), Refused.content(y));
        Check.same("undoableCount after " + command, x.undoableCount(), y.undoableCount());
    }

    private static void errorPosition() {
        for (String command : COMMANDS) {
            for (int length = 0; length < command.length(); length++) {
                String text = command.substring(0, length);
                if (!PlainRepository.isProgram(text)) {
                    malformed(text, length);
                    malformed("archive;" + text, 8 + length);
                }
                malformed(text + "~" + command.substring(length + 1), length);
                malformed("archive;untag A;" + text + "~" + command.substring(length + 1), 16 + length);
            }
            malformed(command + "~", command.length());
            malformed(command + ";", command.length() + 1);
        }
        malformed("e", 1);
        malformed("x", 0);
        malformed("xedit 00a", 0);
        malformed("r", 1);
        malformed("re", 2);
        malformed("rea", 2);
        malformed("rev", 3);
        malformed("revet 0", 4);
        malformed("res", 3);
        malformed("resat 0 0", 3);
        malformed("c", 1);
        malformed("cm", 1);
        malformed("clo", 3);
        malformed("com", 3);
        malformed("t", 1);
        malformed("th", 2);
        malformed("ta", 2);
        malformed("tb", 1);
        malformed("untug", 3);
        malformed("branch 1;bunch", 10);
        malformed("close 0;close 1;close", 21);
        malformed("commit 0 1;commit 0 A", 20);
        malformed("tag A 1;tag A 1;tag AA 1", 21);
    }

    private static void keywords() {
        String[] keywords = {"edit ", "revert ", "commit ", "branch ", "close ", "merge ", "ours ", "theirs ", "pick ",
            "reset ", "tag ", "untag ", "archive"};
        for (String keyword : keywords) {
            for (int i = 0; i < keyword.length(); i++) {
                String before = keyword.substring(0, i);
                char sign = keyword.charAt(i);
                malformed(before, i);
                malformed(before + Character.toUpperCase(sign) + "~", sign == ' ' ? i + 1 : i);
                malformed(before + "0", i);
                malformed(before + ";", i);
                compare(new LetterRepository(), before + (char) (sign + 1));
                compare(new LetterRepository(), before + (char) Math.max(sign - 1, ' '));
            }
        }
    }

    private static void append() {
        Sentences s = Sentences.promise(54);
        s.argument("the character is not in the range from ' ' to '~'", () -> {
            Refused.characters("append", IllegalArgumentException.class, Stores::small, c -> c >= ' ' && c <= '~',
                    (x, c) -> x.append(c));
            LetterRepository x = new LetterRepository();
            for (char sign = ' '; sign <= '~'; sign++) {
                if (sign == 'P') {
                    Check.argument("run", x::run);
                }
                Check.same("append", x.append(sign), sign < 'P' ? sign - ' ' + 1 : sign - 'P' + 1);
            }
            Refused.argument("append", Stores::small, y -> y.append((char) 31), y -> y.append((char) 127),
                    y -> y.append((char) 0), y -> y.append('\n'), y -> y.append((char) 160), y -> y.append((char) 255),
                    y -> y.append((char) ('a' + 256)), y -> y.append((char) 65535));
            Refused.argument("an empty buffer", Stores::plain, y -> y.append((char) 31), y -> y.append((char) 127));
            Refused.argument("a full buffer", () -> typed(FULL), y -> y.append((char) 31), y -> y.append((char) 127));
        });
        s.state("the buffer contains 60 characters", () -> {
            int[] signs = new int[95];
            for (int i = 0; i < 95; i++) {
                signs[i] = ' ' + i;
            }
            Refused.state("a full buffer", () -> typed(FULL), Refused.each(signs, c -> x -> x.append((char) c)));
            Check.same("58", typed(FULL.substring(0, 58)).append('0'), 59);
            Check.same("59", typed(FULL.substring(0, 59)).append('1'), 60);
            LetterRepository x = typed(FULL);
            x.undo();
            x.save();
            x.restore();
            Check.state("still full", () -> x.append('a'));
            Check.same("run", x.run(), 6);
            for (int i = 1; i <= 60; i++) {
                Check.same("empty again", x.append('~'), i);
            }
            Check.state("full again", () -> x.append('~'));
            Check.argument("malformed", x::run);
            Check.same("empty again", x.append('~'), 1);
        });
    }

    private static void run() {
        Sentences s = Sentences.promise(55);
        s.test("Either all commands are executed or none.", () -> {
            String[] programs = {"close 9", "archive;close 9", "edit 00q;edit 11r;close 9",
                "closE 0", "tag Z 0;untag A;branch 0;revert 9", "edit 30q;commit 3 1;reset 0 0;archive;merge 00",
                "merge 12;close 0;theirs 21;pick 4 0", "commit 3 1;commit 3 1", "archive;archive;archive;",
                "reset 0 0;reset 1 0;reset 2 0;untag A;untag M;archive;x", "revert 3;close 3;close 2;close 1;close 0"};
            for (String program : programs) {
                LetterRepository x = emptied();
                String answer = Refused.answer(() -> Check.run(x, program));
                Check.same(program + " answered " + answer, answer.startsWith("Illegal"), true);
                Check.same("content after " + program, Refused.content(x), Refused.content(emptied()));
                Check.same("undoableCount after " + program, x.undoableCount(), 8);
                x.undo();
                Check.same("undo after " + program, x.branchCount(), 4);
                Check.same("undo after " + program, x.isEdited(3, 7), false);
            }
            LetterRepository x = emptied();
            Check.same("all", Check.run(x, "revert 3;close 3;close 2;close 1;edit 00z"), 5);
            Check.same("branch", Check.branch(x, 0), "b0:3 Zcaaaaaa");
            Check.same("branchCount", x.branchCount(), 1);
        });
        s.test("The buffer is empty afterwards, even if an exception is thrown.", () -> {
            String[] programs = {"", "x", FULL, FULL.substring(0, 59) + "~", "archive", "archive;", "close 9"};
            for (String program : programs) {
                LetterRepository x = emptied();
                Refused.answer(() -> Check.run(x, program));
                Check.argument("nothing is left of " + program, x::run);
                Check.same("errorPosition", x.errorPosition(), 0);
                Refused.answer(() -> Check.run(x, program));
                Check.same("append", x.append('a'), 1);
                Check.type(x, "rchive");
                Check.same("run", x.run(), 1);
            }
        });
        s.argument("the program is malformed; the error position is stored", () -> {
            String[] programs = {"", "x", "archive;", "edit 00z;commit 0 2;x", "close 9;x", "edit 00A", "branch 100"};
            int[] positions = {0, 0, 8, 20, 8, 7, 9};
            for (int i = 0; i < programs.length; i++) {
                String program = programs[i];
                LetterRepository first = emptied();
                Check.argument(program, () -> Check.run(first, program));
                Check.same("errorPosition of " + program, first.errorPosition(), positions[i]);
                Check.same("failedCommand stays", first.failedCommand(), 0);
                Check.same("content stays", Refused.content(first), Refused.content(Stores.small()));
                // The second time, nothing at all is different: neither the position nor the empty buffer.
                Refused.argument(program, () -> {
                    LetterRepository x = emptied();
                    Refused.answer(() -> Check.run(x, program));
                    return x;
                }, x -> Check.run(x, program));
            }
            LetterRepository x = new LetterRepository();
            Check.argument("no command has failed", () -> Check.run(x, "close 9;"));
            Check.element("failedCommand", x::failedCommand);
        });
        s.state("the method of a command throws an exception; the index of this command, starting at 0, is stored",
                GrammarTest::failures);
    }

    private static void failures() {
        String[] programs = {"close 9", "archive;commit 0 1", "archive;archive;edit 08z", "branch 4",
            "branch 0;branch 0", "merge 01", "merge 00", "ours 99", "pick 0 0", "pick 0 99", "reset 3 0", "tag A 0", "tag B 4", "untag B",
            "tag B 0;untag B;untag B", "theirs 03", "revert 4", "merge 02",
            "archive;archive;archive;archive;archive;archive;close 9"};
        int[] indexes = {0, 1, 2, 0, 1, 0, 0, 0, 0, 0, 0, 0, 0, 0, 2, 0, 0, 0, 6};
        for (int i = 0; i < programs.length; i++) {
            String program = programs[i];
            LetterRepository first = emptied();
            Check.state(program, () -> Check.run(first, program));
            Check.same("failedCommand of " + program, first.failedCommand(), indexes[i]);
            Check.same("errorPosition stays", first.errorPosition(), 2);
            Check.same("content stays", Refused.content(first), Refused.content(Stores.small()));
            Refused.state(program, () -> {
                LetterRepository x = emptied();
                Refused.answer(() -> Check.run(x, program));
                return x;
            }, x -> Check.run(x, program));
        }
        LetterRepository x = new LetterRepository();
        Check.state("fails", () -> Check.run(x, "archive;close 0"));
        Check.element("no program was malformed", x::errorPosition);
        Check.same("the first one that fails", Refused.answer(() -> Check.run(x, "revert 0;close 0;close 9")),
                "IllegalStateException ");
        Check.same("failedCommand", x.failedCommand(), 1);
    }

    /** The small store with an empty buffer; the error position is 2, the failed command 0. */
    private static LetterRepository emptied() {
        LetterRepository x = Stores.small();
        Check.argument("re is malformed", x::run);
        return x;
    }

    private static void stored() {
        Sentences.promise(56).element("no program was malformed so far", () -> {
            Refused.element("new", LetterRepository::new, x -> x.errorPosition());
            Refused.element("programs that are well-formed", () -> {
                LetterRepository x = new LetterRepository();
                Check.run(x, "archive;edit 00b");
                Check.state("fails", () -> Check.run(x, "close 0"));
                Check.type(x, "not run");
                return x;
            }, x -> x.errorPosition());
            for (int length = 0; length <= 60; length++) {
                LetterRepository x = new LetterRepository();
                String text = FULL.substring(0, length);
                Check.type(x, text);
                if (!PlainRepository.isProgram(text)) {
                    Check.argument("malformed", x::run);
                    Check.same("errorPosition", x.errorPosition(), length);
                    Check.same("once more", x.errorPosition(), length);
                }
            }
        });
        Sentences.promise(57).element("no command failed so far", () -> {
            Refused.element("new", LetterRepository::new, x -> x.failedCommand());
            Refused.element("no failure", () -> {
                LetterRepository x = new LetterRepository();
                Check.run(x, "archive;edit 00b");
                Check.argument("malformed", () -> Check.run(x, "close 0;"));
                Check.state("a call of the method itself", () -> x.closeBranch(0));
                Check.type(x, "close 0");
                return x;
            }, x -> x.failedCommand());
            StringBuilder text = new StringBuilder("close 0");
            for (int index = 0; index < 7; index++) {
                LetterRepository x = new LetterRepository();
                Check.state("fails", () -> Check.run(x, text.toString()));
                Check.same("failedCommand", x.failedCommand(), index);
                Check.same("once more", x.failedCommand(), index);
                text.insert(0, "archive;");
            }
        });
    }
}
