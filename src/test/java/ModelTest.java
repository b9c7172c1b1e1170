import java.lang.reflect.InvocationTargetException;
import java.lang.reflect.Method;
import java.lang.reflect.Modifier;
import java.util.ArrayList;
import java.util.Comparator;
import java.util.List;
import java.util.Random;

/** Long runs of calls, the same ones every time, on LetterRepository and on PlainRepository. */
final class ModelTest {
    private static final int RUNS = 3000;
    private static final int CALLS = 512;

    private final Random random;
    private final LetterRepository x = new LetterRepository();
    private final PlainRepository plain = new PlainRepository();
    private final List<Method> methods = new ArrayList<>();
    private final StringBuilder calls = new StringBuilder();
    private int done;

    private ModelTest(long seed) {
        random = new Random(seed);
        for (Method m : LetterRepository.class.getDeclaredMethods()) {
            if (Modifier.isPublic(m.getModifiers())) {
                methods.add(m);
            }
        }
        methods.sort(Comparator.comparing(Method::getName));
    }

    static void all() {
        Check.test("all promises, long runs against a plain model", () -> {
            for (int seed = 0; seed < RUNS; seed++) {
                String wrong = new ModelTest(seed).run();
                Check.same("run " + seed, wrong, "");
                if (!wrong.isEmpty()) {
                    return;
                }
            }
        });
    }

    private String run() {
        String wrong = "";
        // a program takes many calls of append, so most runs have few of them
        int programs = random.nextInt(3) == 0 ? 12 : 150;
        while (done < CALLS && wrong.isEmpty()) {
            int kind = random.nextInt(10);
            if (random.nextInt(programs) == 0) {
                wrong = program();
            } else if (kind < 3) {
                wrong = revision();
            } else if (kind < 5) {
                wrong = call(change());
            } else {
                wrong = call(question());
            }
        }
        return wrong;
    }

    private String question() {
        String name = methods.get(random.nextInt(methods.size())).getName();
        return List.of("restore", "undo", "archive", "run").contains(name) ? change() : name;
    }

    /** Tries to make a revision: what chance alone would make seldom. */
    private String revision() {
        int branch = random.nextInt(plain.branchCount());
        int other = random.nextInt(plain.branchCount());
        if (random.nextBoolean()) {
            String wrong = compare("edit", branch, random.nextInt(4), letter());
            return wrong.isEmpty() ? compare("commit", branch, random.nextInt(10)) : wrong;
        }
        String wrong = compare("revert", branch);
        wrong = wrong.isEmpty() ? compare("revert", other) : wrong;
        wrong = wrong.isEmpty() ? compare("formatMerge", branch, other) : wrong;
        wrong = wrong.isEmpty() ? compare("conflictAt", branch, other, random.nextInt(3)) : wrong;
        wrong = wrong.isEmpty() ? compare("canMerge", branch, other) : wrong;
        if (!wrong.isEmpty() || random.nextBoolean()) {
            return wrong.isEmpty() ? compare("merge", branch, other) : wrong;
        }
        return compare("mergeKeeping", branch, other, random.nextBoolean());
    }

    private String change() {
        String[] names = {"edit", "edit", "edit", "commit", "createBranch", "closeBranch", "merge", "mergeKeeping",
            "pick", "pick", "reset", "addTag", "revert", "removeTag", "undo", "archive", "save", "restore"};
        String name = names[random.nextInt(names.length)];
        // these end much of what a run has built up
        boolean isRare = List.of("restore", "archive", "undo", "closeBranch").contains(name);
        return isRare && random.nextInt(3) > 0 ? "createBranch" : name;
    }

    private String program() {
        StringBuilder text = new StringBuilder(command());
        while (random.nextInt(3) > 0) {
            text.append(';').append(command());
        }
        if (random.nextInt(4) == 0) {
            int at = random.nextInt(text.length());
            if (random.nextBoolean()) {
                text.setLength(at);
            } else {
                text.setCharAt(at, "; aAz09".charAt(random.nextInt(7)));
            }
        }
        for (int i = 0; i < text.length(); i++) {
            String wrong = compare("append", text.charAt(i));
            if (!wrong.isEmpty()) {
                return wrong;
            }
        }
        String wrong = compare("run");
        for (String name : List.of("errorPosition", "failedCommand", "undoableCount")) {
            wrong = wrong.isEmpty() ? compare(name) : wrong;
        }
        return wrong;
    }

    private String command() {
        int b = random.nextInt(plain.branchCount() + (random.nextInt(6) == 0 ? 1 : 0));
        int o = random.nextInt(plain.branchCount());
        int r = random.nextInt(plain.revisionCount() + (random.nextInt(6) == 0 ? 1 : 0));
        char tag = (char) ('A' + random.nextInt(6));
        String number = r < 10 && random.nextBoolean() ? "0" + r : "" + r;
        switch (random.nextInt(16)) {
            case 0: return "revert " + b;
            case 1:
            case 2: return "commit " + b + " " + random.nextInt(10);
            case 3: return "branch " + number;
            case 4: return "close " + b;
            case 5: return "merge " + b + o;
            case 6: return "ours " + b + o;
            case 7: return "theirs " + b + o;
            case 8: return "pick " + b + " " + number;
            case 9: return "reset " + b + " " + number;
            case 10: return "tag " + tag + " " + number;
            case 11: return "untag " + tag;
            case 12: return "archive";
            default: return "edit " + b + random.nextInt(8) + letter();
        }
    }

    private char letter() {
        return (char) ('a' + random.nextInt(4));
    }

    private int number(int most) {
        if (random.nextInt(200) == 0) {
            return random.nextBoolean() ? Integer.MAX_VALUE - random.nextInt(9) : Integer.MIN_VALUE + random.nextInt(9);
        }
        return random.nextInt(15) == 0 ? random.nextInt(most + 3) - 1 : random.nextInt(Math.max(1, most));
    }

    /** What each method's arguments are. */
    private static String form(String name) {
        switch (name) {
            case "edit": return "bfl";
            case "commit": return "ba";
            case "createBranch": case "isArchived": case "firstParent": case "secondParent": case "authorOf":
            case "generation": case "ancestorCount": case "tagOf": case "formatRevision": return "r";
            case "revert": case "closeBranch": case "head": case "editCount": case "formatBranch":
            case "branchByHead": return "b";
            case "merge": case "conflictCount": case "canMerge": case "formatMerge": return "bb";
            case "mergeKeeping": return "bbk";
            case "pick": case "reset": case "canPick": return "br";
            case "addTag": return "tr";
            case "removeTag": case "taggedRevision": return "t";
            case "letterIn": case "originOf": case "originByRecursion": return "rf";
            case "isAncestor": case "commonAncestor": case "commonAncestorBySets": case "distance":
            case "differences": return "rr";
            case "revisionsBy": return "a";
            case "letterAt": case "isEdited": return "bf";
            case "conflictAt": return "bbp";
            case "mergedLetter": return "bbf";
            case "lineChar": return "i";
            case "append": return "c";
            default: return "";
        }
    }

    private Object argument(char kind) {
        switch (kind) {
            case 'b': return number(plain.branchCount());
            case 'f': return number(8);
            case 'l': return random.nextInt(20) == 0 ? (char) random.nextInt(256) : letter();
            case 'a': return number(10);
            case 'r': return number(plain.revisionCount());
            case 'k': return random.nextBoolean();
            case 't': return random.nextInt(20) == 0 ? (char) random.nextInt(256) : (char) ('A' + random.nextInt(6));
            case 'p': return number(4);
            case 'i': return number(24);
            default: return (char) random.nextInt(130);
        }
    }

    private String call(String name) {
        String form = form(name);
        Object[] arguments = new Object[form.length()];
        for (int i = 0; i < arguments.length; i++) {
            arguments[i] = argument(form.charAt(i));
        }
        String wrong = compare(name, arguments);
        boolean isFormat = name.startsWith("format");
        for (int i = 0; isFormat && i < 25 && wrong.isEmpty(); i++) {
            wrong = compare("lineChar", i);
        }
        return wrong;
    }

    private String compare(String name, Object... arguments) {
        if (done >= CALLS) {
            return "";
        }
        done++;
        calls.append(name).append(List.of(arguments)).append(' ');
        Method method = null;
        for (Method m : methods) {
            method = m.getName().equals(name) ? m : method;
        }
        Object got = outcome(method, x, arguments);
        Object due;
        try {
            due = outcome(PlainRepository.class.getMethod(name, method.getParameterTypes()), plain, arguments);
        } catch (NoSuchMethodException e) {
            due = e;
        }
        return got.equals(due) ? "" : calls + "answered " + got + ", due is " + due;
    }

    private static Object outcome(Method method, Object target, Object[] arguments) {
        try {
            method.setAccessible(true);
            return method.invoke(target, arguments);
        } catch (InvocationTargetException e) {
            return e.getCause().getClass().getName();
        } catch (IllegalAccessException e) {
            return e.toString();
        }
    }
}
