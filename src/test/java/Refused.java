import java.util.ArrayList;
import java.util.Arrays;
import java.util.List;
import java.util.NoSuchElementException;
import java.util.function.IntFunction;
import java.util.stream.IntStream;

/**
 * Calls that are refused, on stores that are made twice: one with the calls, one without them. Both must look the same
 * from every side. Each side has two stores of its own, since looking there changes them, and since a store lasts for
 * 512 calls.
 */
final class Refused {
    /** Makes a store; each time the same one. */
    interface Recipe {
        LetterRepository make();
    }

    interface Call {
        void on(LetterRepository x);
    }

    interface CharCall {
        void on(LetterRepository x, char character);
    }

    interface CharSet {
        boolean contains(char character);
    }

    private interface Side {
        String of(LetterRepository x);
    }

    private static final int MOST_AT_ONCE = 60;

    private Refused() {
    }

    static void index(String name, Recipe recipe, Call... calls) {
        refuse(name, IndexOutOfBoundsException.class, recipe, calls);
    }

    static void argument(String name, Recipe recipe, Call... calls) {
        refuse(name, IllegalArgumentException.class, recipe, calls);
    }

    static void state(String name, Recipe recipe, Call... calls) {
        refuse(name, IllegalStateException.class, recipe, calls);
    }

    static void element(String name, Recipe recipe, Call... calls) {
        refuse(name, NoSuchElementException.class, recipe, calls);
    }

    private static void refuse(String name, Class<?> due, Recipe recipe, Call... calls) {
        Check.same("there are calls of " + name, calls.length > 0, true);
        for (int from = 0; from < calls.length; from += MOST_AT_ONCE) {
            refuseFew(name, due, recipe, Arrays.copyOfRange(calls, from, Math.min(calls.length, from + MOST_AT_ONCE)));
        }
    }

    private static void refuseFew(String name, Class<?> due, Recipe recipe, Call[] calls) {
        for (Side side : sides()) {
            LetterRepository called = recipe.make();
            for (Call call : calls) {
                Check.throwing(name, due, () -> call.on(called));
            }
            Check.same("the store behind the refused " + name, side.of(called), side.of(recipe.make()));
        }
    }

    /** Tries each of the 65536 characters: the call is refused for all that are not allowed. */
    static void characters(String name, Class<?> due, Recipe recipe, CharSet allowed, CharCall call) {
        LetterRepository x = recipe.make();
        for (int c = 0; c <= Character.MAX_VALUE; c++) {
            char character = (char) c;
            if (c % 400 == 0) {
                x = recipe.make();
            }
            LetterRepository called = x;
            if (!allowed.contains(character)) {
                Check.throwing(name + " " + c, due, () -> call.on(called, character));
            }
        }
    }

    /** Numbers that are not from 0 to size - 1, those among them that a shift or a product would wrap around. */
    static int[] outside(int size) {
        int[] candidates = {-1, -2, -size, -size - 1, size, size + 1, 2 * size, 31, 32, 33, 63, 64, 127, 128, 255, 256,
            257, 65535, 65536, 1 << 28, 1 << 29, (1 << 29) + 1, 1 << 30, -(1 << 29), -(1 << 30), Integer.MAX_VALUE - 1,
            Integer.MAX_VALUE, Integer.MIN_VALUE, Integer.MIN_VALUE + 1, Integer.MIN_VALUE + size};
        return IntStream.of(candidates).filter(n -> n < 0 || n >= size).distinct().toArray();
    }

    static Call[] each(int[] values, IntFunction<Call> call) {
        return IntStream.of(values).mapToObj(call).toArray(Call[]::new);
    }

    private static List<Side> sides() {
        List<Side> sides = new ArrayList<>();
        sides.add(x -> surface(x) + content(x));
        sides.add(Refused::derived);
        sides.add(x -> answer(() -> x.append('~')) + surface(x) + answer(x::run) + answer(x::errorPosition));
        sides.add(x -> answer(x::run) + surface(x) + content(x));
        sides.add(x -> answer(x::restore) + answer(x::undoableCount) + content(x));
        for (int undone = 1; undone <= 8; undone++) {
            int count = undone;
            sides.add(x -> {
                StringBuilder text = new StringBuilder();
                for (int i = 0; i < count; i++) {
                    text.append(answer(x::undo));
                }
                return text + content(x);
            });
        }
        return sides;
    }

    interface Question {
        Object ask();
    }

    static String answer(Question question) {
        try {
            return question.ask() + " ";
        } catch (RuntimeException e) {
            return e.getClass().getSimpleName() + " ";
        }
    }

    static String line(LetterRepository x) {
        StringBuilder line = new StringBuilder();
        for (int i = 0; ; i++) {
            try {
                line.append(x.lineChar(i));
            } catch (IndexOutOfBoundsException e) {
                return line.toString();
            }
        }
    }

    private static String surface(LetterRepository x) {
        return line(x) + "/" + answer(x::undoableCount) + answer(x::errorPosition) + answer(x::failedCommand);
    }

    private static String derived(LetterRepository x) {
        StringBuilder text = new StringBuilder();
        for (int r = 0; r < x.revisionCount(); r++) {
            text.append(x.generation(r)).append(' ').append(x.ancestorCount(r)).append(' ');
        }
        return text.append(x.usedCount()).append(' ').append(x.tagCount()).append(' ').append(x.isConsistent())
                .toString();
    }

    /** Revisions, branches and tags, read without a change of the line. */
    static String content(LetterRepository x) {
        StringBuilder text = new StringBuilder();
        for (int i = 0; i < x.revisionCount(); i++) {
            int r = i;
            text.append("\nr").append(r).append(' ');
            for (int field = 0; field < 8; field++) {
                text.append(x.letterIn(r, field));
            }
            text.append(" @").append(x.authorOf(r)).append(" <").append(answer(() -> x.firstParent(r)));
            text.append(answer(() -> x.secondParent(r))).append(x.isArchived(r));
        }
        for (int b = 0; b < x.branchCount(); b++) {
            text.append("\nb").append(b).append(' ').append(x.head(b)).append(' ');
            for (int field = 0; field < 8; field++) {
                text.append(x.letterAt(b, field));
            }
        }
        text.append("\n");
        for (char tag = 'A'; tag <= 'Z'; tag++) {
            char letter = tag;
            text.append(tag).append(answer(() -> x.taggedRevision(letter)));
        }
        return text.toString();
    }
}
