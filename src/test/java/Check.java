/** Counts tests and reports every check that fails. */
final class Check {
    interface Body {
        void run();
    }

    static int passed;
    static int failed;
    private static String test = "";
    private static int wrong;

    private Check() {
    }

    static void test(String name, Body body) {
        test = name;
        wrong = 0;
        try {
            body.run();
        } catch (RuntimeException e) {
            report("unexpected " + e);
            e.printStackTrace(System.out);
        }
        if (wrong == 0) {
            passed++;
        } else {
            failed++;
        }
    }

    static void same(String call, Object got, Object due) {
        if (!due.equals(got)) {
            report(call + " answered " + got + ", due is " + due);
        }
    }

    static void index(String call, Body body) {
        throwing(call, IndexOutOfBoundsException.class, body);
    }

    static void argument(String call, Body body) {
        throwing(call, IllegalArgumentException.class, body);
    }

    static void state(String call, Body body) {
        throwing(call, IllegalStateException.class, body);
    }

    static void element(String call, Body body) {
        throwing(call, java.util.NoSuchElementException.class, body);
    }

    /** The exact class is asked for: one that the machine throws is a class below it. */
    static void throwing(String call, Class<?> due, Body body) {
        try {
            body.run();
        } catch (RuntimeException e) {
            if (e.getClass() != due) {
                report(call + " threw " + e + ", due is " + due.getSimpleName());
            }
            return;
        }
        report(call + " threw nothing, due is " + due.getSimpleName());
    }

    private static void report(String text) {
        wrong++;
        System.out.println(test + ": " + text);
    }

    // What many tests do with a store

    static void type(LetterRepository x, String text) {
        if (text.length() > 60) {
            throw new AssertionError("too long for the buffer: " + text);
        }
        for (char c : text.toCharArray()) {
            x.append(c);
        }
    }

    static int run(LetterRepository x, String text) {
        type(x, text);
        return x.run();
    }

    /** Runs each command as a program of its own, so that there can be any number of them. */
    static void each(LetterRepository x, String commands) {
        for (String command : commands.split(";")) {
            run(x, command);
        }
    }

    static LetterRepository after(String commands) {
        LetterRepository x = new LetterRepository();
        each(x, commands);
        return x;
    }

    static String line(LetterRepository x, int length) {
        StringBuilder text = new StringBuilder();
        for (int i = 0; i < length; i++) {
            text.append(x.lineChar(i));
        }
        index("lineChar behind the line", () -> x.lineChar(length));
        return text.toString();
    }

    static String revision(LetterRepository x, int revision) {
        return line(x, x.formatRevision(revision));
    }

    static String branch(LetterRepository x, int branch) {
        return line(x, x.formatBranch(branch));
    }

    static String merged(LetterRepository x, int branch, int other) {
        return line(x, x.formatMerge(branch, other));
    }

    /** Everything that changes can change, as a text. */
    static String everything(LetterRepository x) {
        StringBuilder text = new StringBuilder();
        for (int r = 0; r < x.revisionCount(); r++) {
            text.append(revision(x, r)).append('\n');
        }
        for (int b = 0; b < x.branchCount(); b++) {
            text.append(branch(x, b)).append('\n');
        }
        for (char tag = 'A'; tag <= 'Z'; tag++) {
            try {
                text.append(tag).append(x.taggedRevision(tag)).append(' ');
            } catch (java.util.NoSuchElementException e) {
                text.append(tag).append(' ');
            }
        }
        return text.toString();
    }

    /** Fills the store with 24 revisions on branch 0. */
    static LetterRepository full() {
        LetterRepository x = new LetterRepository();
        for (int r = 1; r < 24; r++) {
            x.edit(0, r % 8, (char) ('a' + r));
            same("commit", x.commit(0, r % 10), r);
        }
        return x;
    }
}
