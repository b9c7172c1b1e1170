import java.util.LinkedHashMap;
import java.util.List;
import java.util.Map;

/**
 * The sides from which a store can be looked at. A store is made twice, once with a call and once without it, and each
 * side has two stores of its own, since looking there changes them, and since a store lasts for 512 calls.
 */
final class Sides {
    private interface Side {
        String of(LetterRepository x);
    }

    private static final Map<String, Side> ALL = all();

    private Sides() {
    }

    private static Map<String, Side> all() {
        Map<String, Side> sides = new LinkedHashMap<>();
        sides.put("content", Refused::content);
        sides.put("derived", Sides::derived);
        sides.put("line", Refused::line);
        sides.put("error position", x -> Refused.answer(x::errorPosition));
        sides.put("failed command", x -> Refused.answer(x::failedCommand));
        sides.put("count", x -> Refused.answer(x::undoableCount));
        sides.put("buffer", x -> Refused.answer(() -> x.append('~')) + Refused.answer(x::run)
                + Refused.answer(x::errorPosition));
        sides.put("program", x -> Refused.answer(x::run) + Refused.content(x));
        sides.put("saved copy", x -> Refused.answer(() -> x.restore() + Refused.content(x)));
        for (int undone = 1; undone <= 8; undone++) {
            int count = undone;
            sides.put("undo " + undone, x -> undo(x, count) + Refused.content(x));
        }
        return sides;
    }

    private static String undo(LetterRepository x, int count) {
        StringBuilder text = new StringBuilder();
        for (int i = 0; i < count; i++) {
            text.append(Refused.answer(x::undo));
        }
        return text.toString();
    }

    private static String derived(LetterRepository x) {
        StringBuilder text = new StringBuilder();
        for (int r = 0; r < x.revisionCount(); r++) {
            text.append(x.generation(r)).append(' ').append(x.ancestorCount(r)).append(' ');
        }
        return text.append(x.usedCount()).append(' ').append(x.tagCount()).append(' ').append(x.isConsistent())
                .toString();
    }

    /** No side shows that the call was made. */
    static void allSame(String name, Refused.Recipe recipe, Refused.Call call) {
        sameBut(name, recipe, call);
    }

    /** No side but those whose names begin so shows that the call was made. */
    static void sameBut(String name, Refused.Recipe recipe, Refused.Call call, String... others) {
        ALL.forEach((sideName, side) -> {
            if (List.of(others).stream().noneMatch(sideName::startsWith)) {
                LetterRepository called = recipe.make();
                call.on(called);
                Check.same(sideName + " behind " + name, side.of(called), side.of(recipe.make()));
            }
        });
    }

    /** Each undo of a store with the change leads where one less leads without it. */
    static void undoneOneByOne(String name, Refused.Recipe recipe, Refused.Call change) {
        int before = recipe.make().undoableCount();
        for (int undone = 1; undone <= Math.min(before + 1, 8); undone++) {
            LetterRepository changed = recipe.make();
            change.on(changed);
            LetterRepository twin = recipe.make();
            Check.same("undoableCount behind " + name, changed.undoableCount(), Math.min(before + 1, 8));
            undo(changed, undone);
            undo(twin, undone - 1);
            Check.same("undo " + undone + " behind " + name, Refused.content(changed), Refused.content(twin));
        }
    }
}
