import java.lang.reflect.Field;

/**
 * Promise 49 where a check fails. No calls of the face make a store inconsistent, so this test alone reaches into the
 * fields of the class; where the state is held in another way than it expects, it says so and tests nothing.
 */
final class ConsistencyTest {
    private ConsistencyTest() {
    }

    static void all() {
        if (!isHeldAsExpected()) {
            System.out.println("promise 49: the state is held in another way, no check is made to fail");
            return;
        }
        Check.test("promise 49: commonAncestor and commonAncestorBySets disagree", () -> {
            LetterRepository x = Stores.crossed();
            cells(x, "ancestorSets")[4] |= 1 << 3;
            Check.same("isConsistent", x.isConsistent(), false);
            LetterRepository other = Stores.crossed();
            other.closeBranch(1);
            cells(other, "ancestorSets")[4] |= 1 << 3;
            Check.same("4 is no head", other.isConsistent(), true);
        });
        Check.test("promise 49: usedCount and usedCountByMarks disagree", () -> {
            LetterRepository x = Check.after("edit 00b;commit 0 1;branch 0;edit 11c;commit 1 2;reset 0 0;close 0");
            x.reset(0, 1);
            Check.same("before", x.isConsistent(), true);
            cells(x, "firstParents")[1] = 2;
            Check.same("isConsistent", x.isConsistent(), false);
        });
        Check.test("promise 49: an archived revision is in use", () -> {
            for (int archived = 0; archived < 4; archived++) {
                LetterRepository x = Stores.crossed();
                x.reset(1, 0);
                Check.same("before", x.isConsistent(), true);
                putArchived(x, 1 << archived);
                Check.same("isConsistent", x.isConsistent(), false);
                putArchived(x, 1 << 4);
                Check.same("4 is not in use", x.isConsistent(), true);
            }
        });
    }

    private static boolean isHeldAsExpected() {
        try {
            LetterRepository x = Stores.crossed();
            return cells(x, "ancestorSets")[4] == 23 && cells(x, "firstParents")[1] == 0;
        } catch (RuntimeException e) {
            return false;
        }
    }

    private static Object read(Object from, String name) {
        try {
            return field(from, name).get(from);
        } catch (ReflectiveOperationException e) {
            throw new IllegalStateException(e);
        }
    }

    private static Field field(Object from, String name) throws ReflectiveOperationException {
        Field field = from.getClass().getDeclaredField(name);
        field.setAccessible(true);
        return field;
    }

    private static Object revisions(LetterRepository x) {
        return read(read(x, "store"), "revisions");
    }

    private static int[] cells(LetterRepository x, String row) {
        return (int[]) read(read(revisions(x), row), "cells");
    }

    private static void putArchived(LetterRepository x, int set) {
        try {
            field(revisions(x), "archived").setInt(revisions(x), set);
        } catch (ReflectiveOperationException e) {
            throw new IllegalStateException(e);
        }
    }
}
