import java.util.NoSuchElementException;

/**
 * A revision store for one document of letters, with branches, three-way merges, conflicts, tags, and archived
 * revisions.
 */
public final class LetterRepository {
    private static final int FIELDS = 8;
    private static final int MOST_REVISIONS = 24;
    private static final int MOST_BRANCHES = 5;
    private static final int AUTHORS = 10;
    private static final int TAGS = 26;
    private static final int MOST_UNDONE = 8;
    private static final int MOST_INPUT = 60;
    /** The shortest command has 7 characters and a semicolon after it, so the buffer holds no more than these. */
    private static final int MOST_COMMANDS = 8;
    private static final int MOST_ARGUMENTS = 3;
    /** Stands for a missing revision, tag, branch, field or position. */
    private static final int NONE = -1;
    /** Stands for a conflict where a letter could be. */
    private static final char CONFLICT = '?';

    /* The signs that stand for arguments in the forms of commands; no keyword contains them. */
    private static final char DIGIT = '#';
    private static final char NUMBER = '*';
    private static final char LETTER = '$';
    private static final char CAPITAL = '^';

    private static final Kind[] KINDS = Kind.values();

    private final Store store = new Store();
    private final Store savedCopy = new Store();
    private final History history = new History();
    private final Program program = new Program();
    private final StringBuilder input = new StringBuilder();
    private final StringBuilder line = new StringBuilder();
    private boolean hasSavedCopy;
    private int storedErrorPosition = NONE;
    private int storedFailedCommand = NONE;

    public LetterRepository() {
    }

    // Changes

    public int edit(int branch, int field, char letter) throws IndexOutOfBoundsException, IllegalArgumentException {
        refuse(store.refusalOfEdit(branch, field, letter));
        remember();
        return store.putLetter(branch, field, letter);
    }

    public int revert(int branch) throws IndexOutOfBoundsException {
        refuse(store.refusalOfRevert(branch));
        remember();
        return store.dropEdits(branch);
    }

    public int commit(int branch, int author)
            throws IndexOutOfBoundsException, IllegalArgumentException, IllegalStateException {
        refuse(store.refusalOfCommit(branch, author));
        remember();
        return store.commitWorking(branch, author);
    }

    public int createBranch(int revision) throws NoSuchElementException, IllegalStateException {
        refuse(store.refusalOfBranching(revision));
        remember();
        return store.openBranch(revision);
    }

    public int closeBranch(int branch) throws IndexOutOfBoundsException, IllegalStateException {
        refuse(store.refusalOfClosing(branch));
        remember();
        return store.dropBranch(branch);
    }

    public int merge(int branch, int other)
            throws IndexOutOfBoundsException, IllegalArgumentException, IllegalStateException {
        refuse(store.refusalOfMerge(branch, other));
        remember();
        return store.mergeHeads(branch, other, true);
    }

    public int mergeKeeping(int branch, int other, boolean keepsOurs)
            throws IndexOutOfBoundsException, IllegalArgumentException, IllegalStateException {
        refuse(store.refusalOfKeeping(branch, other));
        remember();
        return store.mergeHeads(branch, other, keepsOurs);
    }

    public int pick(int branch, int revision)
            throws IndexOutOfBoundsException, NoSuchElementException, IllegalStateException {
        refuse(store.refusalOfPick(branch, revision));
        remember();
        return store.pickChange(branch, revision);
    }

    public int reset(int branch, int revision)
            throws IndexOutOfBoundsException, NoSuchElementException, IllegalStateException {
        refuse(store.refusalOfReset(branch, revision));
        remember();
        return store.moveHead(branch, revision);
    }

    public int addTag(char letter, int revision)
            throws IllegalArgumentException, NoSuchElementException, IllegalStateException {
        refuse(store.refusalOfTag(letter, revision));
        remember();
        return store.putTag(letter, revision);
    }

    public int removeTag(char letter) throws NoSuchElementException {
        refuse(store.refusalOfUntag(letter));
        remember();
        return store.takeTag(letter);
    }

    public int archive() {
        remember();
        return store.archiveUnused();
    }

    // Revisions

    public int revisionCount() {
        return store.revisions.count;
    }

    public boolean isArchived(int revision) throws NoSuchElementException {
        requireRevision(revision);
        return store.revisions.inArchive(revision);
    }

    public int firstParent(int revision) throws NoSuchElementException {
        requireRevision(revision);
        return requirePresent(store.revisions.firstParentOf(revision));
    }

    public int secondParent(int revision) throws NoSuchElementException {
        requireRevision(revision);
        return requirePresent(store.revisions.secondParentOf(revision));
    }

    public int authorOf(int revision) throws NoSuchElementException {
        requireRevision(revision);
        return store.revisions.writerOf(revision);
    }

    public int generation(int revision) throws NoSuchElementException {
        requireRevision(revision);
        return store.revisions.generationOf(revision);
    }

    public char letterIn(int revision, int field) throws NoSuchElementException, IndexOutOfBoundsException {
        requireRevision(revision);
        requireField(field);
        return (char) store.revisions.letterOf(revision, field);
    }

    public boolean isAncestor(int first, int second) throws NoSuchElementException {
        requireRevision(first);
        requireRevision(second);
        return contains(store.revisions.ancestorSetOf(second), first);
    }

    public int ancestorCount(int revision) throws NoSuchElementException {
        requireRevision(revision);
        return Integer.bitCount(store.revisions.ancestorSetOf(revision));
    }

    public int commonAncestor(int first, int second) throws NoSuchElementException {
        requireRevision(first);
        requireRevision(second);
        return store.revisions.latestCommon(first, second);
    }

    public int commonAncestorBySets(int first, int second) throws NoSuchElementException {
        requireRevision(first);
        requireRevision(second);
        return store.revisions.latestCommonBySets(first, second);
    }

    public int distance(int first, int second) throws NoSuchElementException {
        requireRevision(first);
        requireRevision(second);
        return store.revisions.stepsBetween(first, second);
    }

    public int differences(int first, int second) throws NoSuchElementException {
        requireRevision(first);
        requireRevision(second);
        return store.revisions.differingFields(first, second);
    }

    public int originOf(int revision, int field) throws NoSuchElementException, IndexOutOfBoundsException {
        requireRevision(revision);
        requireField(field);
        return store.revisions.sourceOf(revision, field);
    }

    public int originByRecursion(int revision, int field) throws NoSuchElementException, IndexOutOfBoundsException {
        requireRevision(revision);
        requireField(field);
        return Revisions.sourceByRecursion(store.revisions, revision, field, 0);
    }

    public int revisionsBy(int author) throws IllegalArgumentException {
        if (!isAuthor(author)) {
            throw new IllegalArgumentException("no such author");
        }
        return store.revisions.countBy(author);
    }

    public int busiestAuthor() {
        int busiest = 0;
        for (int author = 1; author < AUTHORS; author++) {
            if (store.revisions.countBy(author) > store.revisions.countBy(busiest)) {
                busiest = author;
            }
        }
        return busiest;
    }

    // Branches

    public int branchCount() {
        return store.branchCount;
    }

    public int head(int branch) throws IndexOutOfBoundsException {
        requireBranch(branch);
        return store.headOf(branch);
    }

    public char letterAt(int branch, int field) throws IndexOutOfBoundsException {
        requireBranch(branch);
        requireField(field);
        return (char) store.workingLetter(branch, field);
    }

    public boolean isEdited(int branch, int field) throws IndexOutOfBoundsException {
        requireBranch(branch);
        requireField(field);
        return store.differsFromHead(branch, field);
    }

    public int editCount(int branch) throws IndexOutOfBoundsException {
        requireBranch(branch);
        return store.countEdits(branch);
    }

    public int branchByHead(int rank) throws NoSuchElementException {
        return requirePresent(store.branchOfRank(rank));
    }

    // Merging and picking, looked at beforehand

    public int conflictCount(int branch, int other) throws IndexOutOfBoundsException, IllegalArgumentException {
        requirePair(branch, other);
        return store.countConflicts(branch, other);
    }

    public int conflictAt(int branch, int other, int position)
            throws IndexOutOfBoundsException, IllegalArgumentException, NoSuchElementException {
        requirePair(branch, other);
        return requirePresent(store.conflictField(branch, other, position));
    }

    public boolean canMerge(int branch, int other) throws IndexOutOfBoundsException, IllegalArgumentException {
        requirePair(branch, other);
        return store.refusalOfMerge(branch, other) == Refusal.NOTHING;
    }

    public char mergedLetter(int branch, int other, int field)
            throws IndexOutOfBoundsException, IllegalArgumentException, NoSuchElementException {
        requireField(field);
        requirePair(branch, other);
        int merged = store.mergedSign(branch, other, field);
        if (merged == CONFLICT) {
            throw new NoSuchElementException("the field would be a conflict");
        }
        return (char) merged;
    }

    public boolean canPick(int branch, int revision) throws IndexOutOfBoundsException, NoSuchElementException {
        requireBranch(branch);
        requireRevision(revision);
        return store.refusalOfPick(branch, revision) == Refusal.NOTHING;
    }

    // Tags

    public int tagCount() {
        return store.countTags();
    }

    public int taggedRevision(char letter) throws NoSuchElementException {
        return requirePresent(store.revisionWithTag(letter));
    }

    public char tagOf(int revision) throws NoSuchElementException {
        requireRevision(revision);
        return (char) requirePresent(store.firstTagOf(revision));
    }

    // The store as a whole

    public int usedCount() {
        return Integer.bitCount(store.usedSet());
    }

    public int usedCountByMarks() {
        return store.countUsedByMarks();
    }

    public double meanGeneration() {
        return store.revisions.meanOfGenerations();
    }

    public float archivedShare() {
        return store.revisions.shareOfArchived();
    }

    public boolean isConsistent() {
        return store.ancestorsAgree()
                && store.originsAgree()
                && Integer.bitCount(store.usedSet()) == store.countUsedByMarks()
                && (store.usedSet() & store.revisions.archived) == 0;
    }

    // The line

    public int formatRevision(int revision) throws NoSuchElementException {
        requireRevision(revision);
        Revisions revisions = store.revisions;
        line.setLength(0);
        line.append('r').append(revision).append(' ');
        for (int field = 0; field < FIELDS; field++) {
            line.append((char) revisions.letterOf(revision, field));
        }
        line.append(" @").append(revisions.writerOf(revision));
        appendParent(" <", revisions.firstParentOf(revision));
        appendParent("+", revisions.secondParentOf(revision));
        if (revisions.inArchive(revision)) {
            line.append(" !");
        }
        return line.length();
    }

    private void appendParent(String before, int parent) {
        if (parent != NONE) {
            line.append(before).append(parent);
        }
    }

    public int formatBranch(int branch) throws IndexOutOfBoundsException {
        requireBranch(branch);
        line.setLength(0);
        line.append('b').append(branch).append(':').append(store.headOf(branch)).append(' ');
        for (int field = 0; field < FIELDS; field++) {
            int letter = store.workingLetter(branch, field);
            line.append((char) (store.differsFromHead(branch, field) ? letter - 'a' + 'A' : letter));
        }
        return line.length();
    }

    public int formatMerge(int branch, int other) throws IndexOutOfBoundsException, IllegalArgumentException {
        requirePair(branch, other);
        line.setLength(0);
        for (int field = 0; field < FIELDS; field++) {
            line.append((char) store.mergedSign(branch, other, field));
        }
        return line.length();
    }

    public char lineChar(int index) throws IndexOutOfBoundsException {
        if (index < 0 || index >= line.length()) {
            throw new IndexOutOfBoundsException("no such character of the line");
        }
        return line.charAt(index);
    }

    // Programs

    public int append(char character) throws IllegalArgumentException, IllegalStateException {
        if (character < ' ' || character > '~') {
            throw new IllegalArgumentException("no such character in programs");
        }
        if (input.length() >= MOST_INPUT) {
            throw new IllegalStateException("the buffer is full");
        }
        input.append(character);
        return input.length();
    }

    public int run() throws IllegalArgumentException, IllegalStateException {
        program.parse(input);
        input.setLength(0);
        if (program.error != NONE) {
            storedErrorPosition = program.error;
            throw new IllegalArgumentException("the program is malformed");
        }
        history.note(store);
        for (int index = 0; index < program.count; index++) {
            Command command = program.commandAt(index);
            if (command == null || store.refusalOf(command) != Refusal.NOTHING) {
                history.putNotedInto(store);
                storedFailedCommand = index;
                throw new IllegalStateException("a command failed");
            }
            store.perform(command);
        }
        history.keepNoted();
        return program.count;
    }

    public int errorPosition() throws NoSuchElementException {
        return requirePresent(storedErrorPosition);
    }

    public int failedCommand() throws NoSuchElementException {
        return requirePresent(storedFailedCommand);
    }

    // Undo and the saved copy

    public int undoableCount() {
        return history.count;
    }

    public int undo() throws IllegalStateException {
        if (history.count == 0) {
            throw new IllegalStateException("no change can be undone");
        }
        history.takeBackInto(store);
        return history.count;
    }

    public int save() {
        savedCopy.copyFrom(store);
        hasSavedCopy = true;
        return store.revisions.count;
    }

    public int restore() throws IllegalStateException {
        if (!hasSavedCopy) {
            throw new IllegalStateException("there is no saved copy");
        }
        store.copyFrom(savedCopy);
        history.forget();
        return store.revisions.count;
    }

    private void remember() {
        history.note(store);
        history.keepNoted();
    }

    // Refusals

    private static void refuse(Refusal refusal) {
        if (refusal == Refusal.INDEX) {
            throw new IndexOutOfBoundsException("no such branch or field");
        }
        if (refusal == Refusal.ARGUMENT) {
            throw new IllegalArgumentException("an argument is out of range");
        }
        if (refusal == Refusal.ELEMENT) {
            throw new NoSuchElementException("no such revision or tag");
        }
        if (refusal == Refusal.STATE) {
            throw new IllegalStateException("the store does not allow it now");
        }
    }

    private void requireBranch(int branch) {
        if (!store.hasBranch(branch)) {
            throw new IndexOutOfBoundsException("no such branch");
        }
    }

    private void requirePair(int branch, int other) {
        refuse(store.refusalOfPair(branch, other));
    }

    private static void requireField(int field) {
        if (!isField(field)) {
            throw new IndexOutOfBoundsException("no such field");
        }
    }

    private void requireRevision(int revision) {
        if (!store.revisions.has(revision)) {
            throw new NoSuchElementException("no such revision");
        }
    }

    private static int requirePresent(int found) {
        if (found == NONE) {
            throw new NoSuchElementException("there is none");
        }
        return found;
    }

    // Ranges

    private static boolean isField(int field) {
        return field >= 0 && field < FIELDS;
    }

    private static boolean isAuthor(int author) {
        return author >= 0 && author < AUTHORS;
    }

    private static boolean isSmall(int sign) {
        return sign >= 'a' && sign <= 'z';
    }

    private static boolean isCapital(int sign) {
        return sign >= 'A' && sign <= 'Z';
    }

    private static boolean isDigit(int sign) {
        return sign >= '0' && sign <= '9';
    }

    // Sets of revisions, a bit for each revision

    private static int setOf(int revision) {
        return revision >= 0 && revision < MOST_REVISIONS ? 1 << revision : 0;
    }

    private static boolean contains(int set, int revision) {
        return (set & setOf(revision)) != 0;
    }

    /** Why a call is refused: each reason has an exception of its own. */
    private enum Refusal {
        NOTHING, INDEX, ARGUMENT, ELEMENT, STATE
    }

    /** A row of numbers that answers NONE for a place that it does not have, so that no index can be wrong. */
    private static final class Row {
        private final int[] cells;

        Row(int length, int value) {
            cells = new int[length < 0 ? 0 : length];
            for (int index = 0; index < cells.length; index++) {
                cells[index] = value;
            }
        }

        int get(int index) {
            return index >= 0 && index < cells.length ? cells[index] : NONE;
        }

        void set(int index, int value) {
            if (index >= 0 && index < cells.length) {
                cells[index] = value;
            }
        }

        void copyFrom(Row other) {
            System.arraycopy(other.cells, 0, cells, 0, Math.min(other.cells.length, cells.length));
        }
    }

    /** The revisions. A parent always has a lower number than its children. */
    private static final class Revisions {
        private final Row firstParents = new Row(MOST_REVISIONS, NONE);
        private final Row secondParents = new Row(MOST_REVISIONS, NONE);
        private final Row authors = new Row(MOST_REVISIONS, 0);
        private final Row generations = new Row(MOST_REVISIONS, 0);
        private final Row ancestorSets = new Row(MOST_REVISIONS, setOf(0));
        private final Row letters = new Row(MOST_REVISIONS * FIELDS, 'a');
        private int archived;
        private int count = 1;

        void copyFrom(Revisions other) {
            firstParents.copyFrom(other.firstParents);
            secondParents.copyFrom(other.secondParents);
            authors.copyFrom(other.authors);
            generations.copyFrom(other.generations);
            ancestorSets.copyFrom(other.ancestorSets);
            letters.copyFrom(other.letters);
            archived = other.archived;
            count = other.count;
        }

        boolean has(int revision) {
            return revision >= 0 && revision < count;
        }

        boolean isFull() {
            return count >= MOST_REVISIONS;
        }

        boolean inArchive(int revision) {
            return contains(archived, revision);
        }

        /** Whether a branch, a tag or a picking can begin with a revision. */
        boolean isOpen(int revision) {
            return has(revision) && !inArchive(revision);
        }

        int firstParentOf(int revision) {
            return firstParents.get(revision);
        }

        int secondParentOf(int revision) {
            return secondParents.get(revision);
        }

        int writerOf(int revision) {
            return authors.get(revision);
        }

        int generationOf(int revision) {
            return generations.get(revision);
        }

        int ancestorSetOf(int revision) {
            return revision == NONE ? 0 : ancestorSets.get(revision);
        }

        int letterOf(int revision, int field) {
            return letters.get(revision * FIELDS + field);
        }

        void putLetter(int revision, int field, int letter) {
            letters.set(revision * FIELDS + field, letter);
        }

        /** Makes a revision, whose letters are still to be put. */
        int add(int firstParent, int secondParent, int author) {
            int revision = count;
            firstParents.set(revision, firstParent);
            secondParents.set(revision, secondParent);
            authors.set(revision, author);
            // A missing parent has the generation NONE, which is lower than that of any revision.
            generations.set(revision, 1 + Math.max(generationOf(firstParent), generationOf(secondParent)));
            int inherited = ancestorSetOf(firstParent) | ancestorSetOf(secondParent);
            ancestorSets.set(revision, inherited | setOf(revision));
            count++;
            return revision;
        }

        int parentSet(int revision) {
            return setOf(firstParentOf(revision)) | setOf(secondParentOf(revision));
        }

        /** Marks the parents of what is marked; going downwards meets every child before its parents. */
        int withParentsMarked(int marks) {
            int all = marks;
            for (int revision = count - 1; revision > 0; revision--) {
                if (contains(all, revision)) {
                    all |= parentSet(revision);
                }
            }
            return all;
        }

        /** Marks a revision and what its parents lead to; the depth is how many children led here. */
        private static int marked(Revisions revisions, int revision, int marks, int depth) {
            if (!revisions.has(revision) || contains(marks, revision) || depth >= MOST_REVISIONS) {
                return marks;
            }
            int more = marked(revisions, revisions.firstParentOf(revision), marks | setOf(revision), depth + 1);
            return marked(revisions, revisions.secondParentOf(revision), more, depth + 1);
        }

        int latestCommon(int first, int second) {
            int marks = marked(this, first, 0, 0);
            int searched = setOf(second);
            for (int revision = second; revision > 0; revision--) {
                if (contains(searched, revision)) {
                    if (contains(marks, revision)) {
                        return revision;
                    }
                    searched |= parentSet(revision);
                }
            }
            return 0;
        }

        int latestCommonBySets(int first, int second) {
            int both = ancestorSetOf(first) & ancestorSetOf(second);
            int latest = MOST_REVISIONS - 1;
            while (latest > 0 && !contains(both, latest)) {
                latest--;
            }
            return latest;
        }

        int stepsBetween(int first, int second) {
            int reached = setOf(first);
            int steps = 0;
            while (!contains(reached, second) && steps < MOST_REVISIONS) {
                reached = withNeighbours(reached);
                steps++;
            }
            return steps;
        }

        private int withNeighbours(int set) {
            int all = set;
            for (int revision = 0; revision < count; revision++) {
                int parents = parentSet(revision);
                if (contains(set, revision)) {
                    all |= parents;
                }
                if ((set & parents) != 0) {
                    all |= setOf(revision);
                }
            }
            return all;
        }

        int differingFields(int first, int second) {
            int differing = 0;
            for (int field = 0; field < FIELDS; field++) {
                if (letterOf(first, field) != letterOf(second, field)) {
                    differing++;
                }
            }
            return differing;
        }

        /** Whether a revision has a first parent with the same letter in a field. */
        private boolean inherits(int revision, int field) {
            int parent = firstParentOf(revision);
            return parent != NONE && letterOf(parent, field) == letterOf(revision, field);
        }

        int sourceOf(int revision, int field) {
            int source = revision;
            for (int steps = 0; steps < MOST_REVISIONS && inherits(source, field); steps++) {
                source = firstParentOf(source);
            }
            return source;
        }

        private static int sourceByRecursion(Revisions revisions, int revision, int field, int depth) {
            if (depth >= MOST_REVISIONS || !revisions.inherits(revision, field)) {
                return revision;
            }
            return sourceByRecursion(revisions, revisions.firstParentOf(revision), field, depth + 1);
        }

        int countBy(int author) {
            int by = 0;
            for (int revision = 0; revision < count; revision++) {
                if (writerOf(revision) == author) {
                    by++;
                }
            }
            return by;
        }

        double meanOfGenerations() {
            int sum = 0;
            for (int revision = 0; revision < count; revision++) {
                sum += generationOf(revision);
            }
            return count > 0 ? (double) sum / count : 0.0;
        }

        float shareOfArchived() {
            return count > 0 ? (float) Integer.bitCount(archived) / count : 0.0f;
        }
    }

    /** Everything that changes can change: revisions, branches and tags. */
    private static final class Store {
        private final Revisions revisions = new Revisions();
        private final Row heads = new Row(MOST_BRANCHES, 0);
        private final Row working = new Row(MOST_BRANCHES * FIELDS, 'a');
        private final Row tags = new Row(TAGS, NONE);
        private int branchCount = 1;

        void copyFrom(Store other) {
            revisions.copyFrom(other.revisions);
            heads.copyFrom(other.heads);
            working.copyFrom(other.working);
            tags.copyFrom(other.tags);
            branchCount = other.branchCount;
        }

        // Branches

        boolean hasBranch(int branch) {
            return branch >= 0 && branch < branchCount;
        }

        int headOf(int branch) {
            return heads.get(branch);
        }

        int workingLetter(int branch, int field) {
            return working.get(branch * FIELDS + field);
        }

        private void putWorking(int branch, int field, int letter) {
            working.set(branch * FIELDS + field, letter);
        }

        boolean differsFromHead(int branch, int field) {
            return workingLetter(branch, field) != revisions.letterOf(headOf(branch), field);
        }

        int countEdits(int branch) {
            int edits = 0;
            for (int field = 0; field < FIELDS; field++) {
                if (differsFromHead(branch, field)) {
                    edits++;
                }
            }
            return edits;
        }

        /** The branch before which as many others come as the rank says, or NONE. */
        int branchOfRank(int rank) {
            for (int branch = 0; branch < branchCount; branch++) {
                int before = 0;
                for (int other = 0; other < branchCount; other++) {
                    if (comesBefore(other, branch)) {
                        before++;
                    }
                }
                if (before == rank) {
                    return branch;
                }
            }
            return NONE;
        }

        private boolean comesBefore(int branch, int other) {
            int head = headOf(branch);
            int otherHead = headOf(other);
            if (revisions.generationOf(head) != revisions.generationOf(otherHead)) {
                return revisions.generationOf(head) > revisions.generationOf(otherHead);
            }
            return head != otherHead ? head > otherHead : branch < other;
        }

        /** Makes a revision the head of a branch, and its document the working document. */
        private void checkOut(int branch, int revision) {
            heads.set(branch, revision);
            for (int field = 0; field < FIELDS; field++) {
                putWorking(branch, field, revisions.letterOf(revision, field));
            }
        }

        // Editing

        Refusal refusalOfEdit(int branch, int field, int letter) {
            if (!hasBranch(branch) || !isField(field)) {
                return Refusal.INDEX;
            }
            return isSmall(letter) ? Refusal.NOTHING : Refusal.ARGUMENT;
        }

        int putLetter(int branch, int field, int letter) {
            putWorking(branch, field, letter);
            return countEdits(branch);
        }

        Refusal refusalOfRevert(int branch) {
            return hasBranch(branch) ? Refusal.NOTHING : Refusal.INDEX;
        }

        int dropEdits(int branch) {
            int edits = countEdits(branch);
            checkOut(branch, headOf(branch));
            return edits;
        }

        Refusal refusalOfCommit(int branch, int author) {
            if (!hasBranch(branch)) {
                return Refusal.INDEX;
            }
            if (!isAuthor(author)) {
                return Refusal.ARGUMENT;
            }
            return countEdits(branch) == 0 || revisions.isFull() ? Refusal.STATE : Refusal.NOTHING;
        }

        int commitWorking(int branch, int author) {
            int revision = revisions.add(headOf(branch), NONE, author);
            for (int field = 0; field < FIELDS; field++) {
                revisions.putLetter(revision, field, workingLetter(branch, field));
            }
            heads.set(branch, revision);
            return revision;
        }

        Refusal refusalOfReset(int branch, int revision) {
            if (!hasBranch(branch)) {
                return Refusal.INDEX;
            }
            if (!revisions.isOpen(revision)) {
                return Refusal.ELEMENT;
            }
            return countEdits(branch) == 0 ? Refusal.NOTHING : Refusal.STATE;
        }

        int moveHead(int branch, int revision) {
            int previous = headOf(branch);
            checkOut(branch, revision);
            return previous;
        }

        // Opening and closing branches

        Refusal refusalOfBranching(int revision) {
            if (!revisions.isOpen(revision)) {
                return Refusal.ELEMENT;
            }
            return branchCount >= MOST_BRANCHES ? Refusal.STATE : Refusal.NOTHING;
        }

        int openBranch(int revision) {
            int branch = branchCount;
            branchCount++;
            checkOut(branch, revision);
            return branch;
        }

        Refusal refusalOfClosing(int branch) {
            if (!hasBranch(branch)) {
                return Refusal.INDEX;
            }
            return branchCount == 1 ? Refusal.STATE : Refusal.NOTHING;
        }

        int dropBranch(int branch) {
            branchCount--;
            for (int later = branch; later < branchCount; later++) {
                heads.set(later, headOf(later + 1));
                for (int field = 0; field < FIELDS; field++) {
                    putWorking(later, field, workingLetter(later + 1, field));
                }
            }
            return branchCount;
        }

        // Merging

        Refusal refusalOfPair(int branch, int other) {
            if (!hasBranch(branch) || !hasBranch(other)) {
                return Refusal.INDEX;
            }
            return branch == other ? Refusal.ARGUMENT : Refusal.NOTHING;
        }

        Refusal refusalOfKeeping(int branch, int other) {
            Refusal refusal = refusalOfPair(branch, other);
            if (refusal != Refusal.NOTHING) {
                return refusal;
            }
            boolean isEdited = countEdits(branch) > 0 || countEdits(other) > 0;
            boolean isMerged = contains(revisions.ancestorSetOf(headOf(branch)), headOf(other));
            return isEdited || isMerged || revisions.isFull() ? Refusal.STATE : Refusal.NOTHING;
        }

        Refusal refusalOfMerge(int branch, int other) {
            Refusal refusal = refusalOfKeeping(branch, other);
            if (refusal != Refusal.NOTHING) {
                return refusal;
            }
            return countConflicts(branch, other) > 0 ? Refusal.STATE : Refusal.NOTHING;
        }

        /** The letter that a field would get in a merge, or CONFLICT. */
        int mergedSign(int branch, int other, int field) {
            int ourHead = headOf(branch);
            int theirHead = headOf(other);
            int base = revisions.letterOf(revisions.latestCommonBySets(ourHead, theirHead), field);
            int ours = revisions.letterOf(ourHead, field);
            int theirs = revisions.letterOf(theirHead, field);
            if (ours == theirs || theirs == base) {
                return ours;
            }
            return ours == base ? theirs : CONFLICT;
        }

        int countConflicts(int branch, int other) {
            int conflicts = 0;
            for (int field = 0; field < FIELDS; field++) {
                if (mergedSign(branch, other, field) == CONFLICT) {
                    conflicts++;
                }
            }
            return conflicts;
        }

        /** The field of the conflict before which as many others come as the position says, or NONE. */
        int conflictField(int branch, int other, int position) {
            int before = 0;
            for (int field = 0; field < FIELDS; field++) {
                if (mergedSign(branch, other, field) == CONFLICT) {
                    if (before == position) {
                        return field;
                    }
                    before++;
                }
            }
            return NONE;
        }

        int mergeHeads(int branch, int other, boolean keepsOurs) {
            int revision = revisions.add(headOf(branch), headOf(other), revisions.writerOf(headOf(other)));
            for (int field = 0; field < FIELDS; field++) {
                int letter = mergedSign(branch, other, field);
                if (letter == CONFLICT) {
                    letter = revisions.letterOf(headOf(keepsOurs ? branch : other), field);
                }
                revisions.putLetter(revision, field, letter);
            }
            checkOut(branch, revision);
            return revision;
        }

        // Picking

        Refusal refusalOfPick(int branch, int revision) {
            if (!hasBranch(branch)) {
                return Refusal.INDEX;
            }
            if (!revisions.isOpen(revision)) {
                return Refusal.ELEMENT;
            }
            boolean isRoot = revisions.firstParentOf(revision) == NONE;
            return isRoot || blocksPicking(branch, revision) ? Refusal.STATE : Refusal.NOTHING;
        }

        private boolean isChanged(int revision, int field) {
            return revisions.letterOf(revision, field) != revisions.letterOf(revisions.firstParentOf(revision), field);
        }

        private boolean blocksPicking(int branch, int revision) {
            int parent = revisions.firstParentOf(revision);
            for (int field = 0; field < FIELDS; field++) {
                int letter = workingLetter(branch, field);
                if (isChanged(revision, field)
                        && letter != revisions.letterOf(parent, field)
                        && letter != revisions.letterOf(revision, field)) {
                    return true;
                }
            }
            return false;
        }

        int pickChange(int branch, int revision) {
            int different = 0;
            for (int field = 0; field < FIELDS; field++) {
                int letter = revisions.letterOf(revision, field);
                if (isChanged(revision, field) && workingLetter(branch, field) != letter) {
                    putWorking(branch, field, letter);
                    different++;
                }
            }
            return different;
        }

        // Tags

        int revisionWithTag(int letter) {
            return tags.get(letter - 'A');
        }

        int countTags() {
            int count = 0;
            for (int letter = 'A'; letter <= 'Z'; letter++) {
                if (revisionWithTag(letter) != NONE) {
                    count++;
                }
            }
            return count;
        }

        int firstTagOf(int revision) {
            for (int letter = 'A'; letter <= 'Z'; letter++) {
                if (revisionWithTag(letter) == revision) {
                    return letter;
                }
            }
            return NONE;
        }

        Refusal refusalOfTag(int letter, int revision) {
            if (!isCapital(letter)) {
                return Refusal.ARGUMENT;
            }
            if (!revisions.isOpen(revision)) {
                return Refusal.ELEMENT;
            }
            return revisionWithTag(letter) == NONE ? Refusal.NOTHING : Refusal.STATE;
        }

        int putTag(int letter, int revision) {
            tags.set(letter - 'A', revision);
            return countTags();
        }

        Refusal refusalOfUntag(int letter) {
            return revisionWithTag(letter) == NONE ? Refusal.ELEMENT : Refusal.NOTHING;
        }

        int takeTag(int letter) {
            int revision = revisionWithTag(letter);
            tags.set(letter - 'A', NONE);
            return revision;
        }

        // Use and archive

        /** The revisions in use, by following parents. */
        int usedSet() {
            int used = 0;
            for (int branch = 0; branch < branchCount; branch++) {
                used = Revisions.marked(revisions, headOf(branch), used, 0);
            }
            for (int letter = 'A'; letter <= 'Z'; letter++) {
                used = Revisions.marked(revisions, revisionWithTag(letter), used, 0);
            }
            return used;
        }

        int countUsedByMarks() {
            int marks = 0;
            for (int branch = 0; branch < branchCount; branch++) {
                marks |= setOf(headOf(branch));
            }
            for (int letter = 'A'; letter <= 'Z'; letter++) {
                marks |= setOf(revisionWithTag(letter));
            }
            return Integer.bitCount(revisions.withParentsMarked(marks));
        }

        int archiveUnused() {
            int before = Integer.bitCount(revisions.archived);
            int used = usedSet();
            for (int revision = 0; revision < revisions.count; revision++) {
                if (!contains(used, revision)) {
                    revisions.archived |= setOf(revision);
                }
            }
            return Integer.bitCount(revisions.archived) - before;
        }

        // Checks

        boolean ancestorsAgree() {
            for (int branch = 0; branch < branchCount; branch++) {
                for (int other = 0; other < branchCount; other++) {
                    int first = headOf(branch);
                    int second = headOf(other);
                    if (revisions.latestCommon(first, second) != revisions.latestCommonBySets(first, second)) {
                        return false;
                    }
                }
            }
            return true;
        }

        boolean originsAgree() {
            for (int branch = 0; branch < branchCount; branch++) {
                int head = headOf(branch);
                for (int field = 0; field < FIELDS; field++) {
                    if (revisions.sourceOf(head, field) != Revisions.sourceByRecursion(revisions, head, field, 0)) {
                        return false;
                    }
                }
            }
            return true;
        }

        // Commands

        Refusal refusalOf(Command command) {
            int first = command.argument(0);
            int second = command.argument(1);
            switch (command.kind) {
                case EDIT: return refusalOfEdit(first, second, command.argument(2));
                case REVERT: return refusalOfRevert(first);
                case COMMIT: return refusalOfCommit(first, second);
                case BRANCH: return refusalOfBranching(first);
                case CLOSE: return refusalOfClosing(first);
                case MERGE: return refusalOfMerge(first, second);
                case OURS:
                case THEIRS: return refusalOfKeeping(first, second);
                case PICK: return refusalOfPick(first, second);
                case RESET: return refusalOfReset(first, second);
                case TAG: return refusalOfTag(first, second);
                case UNTAG: return refusalOfUntag(first);
                default: return Refusal.NOTHING;
            }
        }

        int perform(Command command) {
            int first = command.argument(0);
            int second = command.argument(1);
            switch (command.kind) {
                case EDIT: return putLetter(first, second, command.argument(2));
                case REVERT: return dropEdits(first);
                case COMMIT: return commitWorking(first, second);
                case BRANCH: return openBranch(first);
                case CLOSE: return dropBranch(first);
                case MERGE:
                case OURS: return mergeHeads(first, second, true);
                case THEIRS: return mergeHeads(first, second, false);
                case PICK: return pickChange(first, second);
                case RESET: return moveHead(first, second);
                case TAG: return putTag(first, second);
                case UNTAG: return takeTag(first);
                default: return archiveUnused();
            }
        }
    }

    /** The stores as they were before the latest changes, in a ring with one slot more than changes can be undone. */
    private static final class History {
        private final Store[] slots = new Store[MOST_UNDONE + 1];
        /** The spare slot, in which a store is noted before it is known whether the change succeeds. */
        private int spare;
        private int count;

        History() {
            for (int index = 0; index < slots.length; index++) {
                slots[index] = new Store();
            }
        }

        private Store slotAt(int index) {
            return index >= 0 && index < slots.length ? slots[index] : null;
        }

        void note(Store store) {
            Store slot = slotAt(spare);
            if (slot != null) {
                slot.copyFrom(store);
            }
        }

        void putNotedInto(Store store) {
            Store slot = slotAt(spare);
            if (slot != null) {
                store.copyFrom(slot);
            }
        }

        void keepNoted() {
            spare = spare < MOST_UNDONE ? spare + 1 : 0;
            count = Math.min(count + 1, MOST_UNDONE);
        }

        void takeBackInto(Store store) {
            spare = spare > 0 ? spare - 1 : MOST_UNDONE;
            count = Math.max(count - 1, 0);
            putNotedInto(store);
        }

        void forget() {
            count = 0;
        }
    }

    /** The kinds of commands, with their forms. */
    private enum Kind {
        EDIT("edit ##$"),
        REVERT("revert #"),
        COMMIT("commit # #"),
        BRANCH("branch *"),
        CLOSE("close #"),
        MERGE("merge ##"),
        OURS("ours ##"),
        THEIRS("theirs ##"),
        PICK("pick # *"),
        RESET("reset # *"),
        TAG("tag ^ *"),
        UNTAG("untag ^"),
        ARCHIVE("archive");

        private final String form;

        Kind(String form) {
            this.form = form;
        }
    }

    /** A command of a program: its kind and its arguments as numbers. */
    private static final class Command {
        private final Row arguments = new Row(MOST_ARGUMENTS, 0);
        private Kind kind = Kind.ARCHIVE;
        private int size;

        void begin(Kind newKind) {
            kind = newKind;
            size = 0;
        }

        void addArgument(int value) {
            arguments.set(size, value);
            size++;
        }

        int argument(int index) {
            return arguments.get(index);
        }
    }

    /** The commands of the latest program that was parsed, or the position of its error. */
    private static final class Program {
        private final Command[] commands = new Command[MOST_COMMANDS];
        private int count;
        private int error = NONE;
        /** The index of the first character that has not been read. */
        private int position;

        Program() {
            for (int index = 0; index < commands.length; index++) {
                commands[index] = new Command();
            }
        }

        Command commandAt(int index) {
            return index >= 0 && index < commands.length ? commands[index] : null;
        }

        void parse(StringBuilder text) {
            count = 0;
            error = NONE;
            position = 0;
            boolean hasMore = true;
            for (int index = 0; hasMore && index < MOST_COMMANDS; index++) {
                hasMore = readCommand(text) && readSemicolon(text);
            }
        }

        /** Reads a command of any kind; if there is none, the error is where the best kind stopped to match. */
        private boolean readCommand(StringBuilder text) {
            int start = position;
            int furthest = start;
            for (Kind kind : KINDS) {
                position = start;
                if (readForm(kind, text)) {
                    count++;
                    return true;
                }
                furthest = Math.max(furthest, position);
            }
            error = furthest;
            return false;
        }

        /** Reads what separates commands; false at the end of the program and at an error. */
        private boolean readSemicolon(StringBuilder text) {
            int found = signAt(text);
            if (found == ';') {
                position++;
                return true;
            }
            if (found != NONE) {
                error = position;
            }
            return false;
        }

        private boolean readForm(Kind kind, StringBuilder text) {
            Command command = commandAt(count);
            if (command == null) {
                return false;
            }
            command.begin(kind);
            for (int index = 0; index < kind.form.length(); index++) {
                if (!readSign(kind.form.charAt(index), text, command)) {
                    return false;
                }
            }
            return true;
        }

        private boolean readSign(char sign, StringBuilder text, Command command) {
            int found = signAt(text);
            if (!fits(found, sign)) {
                return false;
            }
            position++;
            if (sign == DIGIT) {
                command.addArgument(found - '0');
            } else if (sign == NUMBER) {
                command.addArgument(numberFrom(found - '0', text));
            } else if (sign == LETTER || sign == CAPITAL) {
                command.addArgument(found);
            }
            return true;
        }

        private static boolean fits(int found, char sign) {
            switch (sign) {
                case DIGIT:
                case NUMBER: return isDigit(found);
                case LETTER: return isSmall(found);
                case CAPITAL: return isCapital(found);
                default: return found == sign;
            }
        }

        /** The number that begins with a digit that has been read, and takes a second one if it follows. */
        private int numberFrom(int digit, StringBuilder text) {
            int next = signAt(text);
            if (!isDigit(next)) {
                return digit;
            }
            position++;
            return digit * 10 + next - '0';
        }

        private int signAt(StringBuilder text) {
            return position >= 0 && position < text.length() ? text.charAt(position) : NONE;
        }
    }
}
