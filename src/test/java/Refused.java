import java.util.Arrays;
import java.util.NoSuchElementException;
import java.util.function.IntFunction;
import java.util.stream.IntStream;

/** Calls that are refused: each throws the exception that is due, and no side of the store shows that it was called. */
final class Refused {
    /** Makes a store; each time the same one. */
    interface Recipe {
        LetterRepository make();
    }

    interface Call {
        void on(LetterRepository x);
    }

    interface CharCall {
        void on(LetterRepository x, char character);
    }

    interface CharSet {
        boolean contains(char character);
    }

    private static final int MOST_AT_ONCE = 60;

    private Refused() {
    }

    static void index(String name, Recipe recipe, Call... calls) {
        refuse(name, IndexOutOfBoundsException.class, recipe, calls);
    }

    static void argument(String name, Recipe recipe, Call... calls) {
        refuse(name, IllegalArgumentException.class, recipe, calls);
    }

    static void state(String name, Recipe recipe, Call... calls) {
        refuse(name, IllegalStateException.class, recipe, calls);
    }

    static void element(String name, Recipe recipe, Call... calls) {
        refuse(name, NoSuchElementException.class, recipe, calls);
    }

    private static void refuse(String name, Class<?> due, Recipe recipe, Call... calls) {
        Check.same("there are calls of " + name, calls.length > 0, true);
        for (int from = 0; from < calls.length; from += MOST_AT_ONCE) {
            refuseFew(name, due, recipe, Arrays.copyOfRange(calls, from, Math.min(calls.length, from + MOST_AT_ONCE)));
        }
    }

    private static void refuseFew(String name, Class<?> due, Recipe recipe, Call[] calls) {
        Sides.allSame("refused " + name, recipe, called -> {
            for (Call call : calls) {
                Check.throwing(name, due, () -> call.on(called));
            }
        });
    }

    /** Tries each of the 65536 characters: the call is refused for all that are not allowed. */
    static void characters(String name, Class<?> due, Recipe recipe, CharSet allowed, CharCall call) {
        LetterRepository x = recipe.make();
        for (int c = 0; c <= Character.MAX_VALUE; c++) {
            char character = (char) c;
            if (c % 400 == 0) {
                x = recipe.make();
            }
            LetterRepository called = x;
            if (!allowed.contains(character)) {
                Check.throwing(name + " " + c, due, () -> call.on(called, character));
            }
        }
    }

    /** Numbers that are not from 0 to size - 1, those among them that a shift or a product would wrap around. */
    static int[] outside(int size) {
        int[] candidates = {-1, -2, -size, -size - 1, size, size + 1, 2 * size, 31, 32, 33, 63, 64, 127, 128, 255, 256,
            257, 65535, 65536, 1 << 28, 1 << 29, (1 << 29) + 1, 1 << 30, -(1 << 29), -(1 << 30), Integer.MAX_VALUE - 1,
            Integer.MAX_VALUE, Integer.MIN_VALUE, Integer.MIN_VALUE + 1, Integer.MIN_VALUE + size};
        return IntStream.of(candidates).filter(n -> n < 0 || n >= size).distinct().toArray();
    }

    static Call[] each(int[] values, IntFunction<Call> call) {
        return IntStream.of(values).mapToObj(call).toArray(Call[]::new);
    }

    interface Question {
        Object ask();
    }

    static String answer(Question question) {
        try {
            return question.ask() + " ";
        } catch (RuntimeException e) {
            return e.getClass().getSimpleName() + " ";
        }
    }

    static String line(LetterRepository x) {
        StringBuilder line = new StringBuilder();
        for (int i = 0; ; i++) {
            try {
                line.append(x.lineChar(i));
            } catch (IndexOutOfBoundsException e) {
                return line.toString();
            }
        }
    }

    /** Revisions, branches and tags, read without a change of the line. */
    static String content(LetterRepository x) {
        StringBuilder text = new StringBuilder();
        for (int i = 0; i < x.revisionCount(); i++) {
            int r = i;
            text.append("\nr").append(r).append(' ');
            for (int field = 0; field < 8; field++) {
                text.append(x.letterIn(r, field));
            }
            text.append(" @").append(x.authorOf(r)).append(" <").append(answer(() -> x.firstParent(r)));
            text.append(answer(() -> x.secondParent(r))).append(x.isArchived(r));
        }
        for (int b = 0; b < x.branchCount(); b++) {
            text.append("\nb").append(b).append(' ').append(x.head(b)).append(' ');
            for (int field = 0; field < 8; field++) {
                text.append(x.letterAt(b, field));
            }
        }
        text.append("\n");
        for (char tag = 'A'; tag <= 'Z'; tag++) {
            char letter = tag;
            text.append(tag).append(answer(() -> x.taggedRevision(letter)));
        }
        return text.toString();
    }
}
