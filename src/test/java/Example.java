public final class Example {
    public static void main(String[] args) {
        LetterRepository store = new LetterRepository();
        store.edit(0, 0, 'b');               // field 0 of branch 0
        store.commit(0, 3);                  // revision 1, by author 3
        int other = store.createBranch(0);   // branch 1, from the root

        for (char c : "edit 10c;edit 11d;commit 1 4".toCharArray()) {
            store.append(c);
        }
        store.run();                         // revision 2, by author 4

        int merged;
        try {
            merged = store.merge(0, other);
        } catch (IllegalStateException e) {  // both changed field 0: nothing is merged
            System.out.println("conflict in field " + store.conflictAt(0, other, 0));
            merged = store.mergeKeeping(0, other, true);
        }

        int length = store.formatRevision(merged);
        for (int i = 0; i < length; i++) {
            System.out.print(store.lineChar(i));
        }
        System.out.println();

        store.undo();
        System.out.println(store.revisionCount() + " revisions, branch 0 at " + store.head(0));
    }
}
