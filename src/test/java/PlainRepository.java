import java.util.ArrayDeque;
import java.util.ArrayList;
import java.util.Comparator;
import java.util.Deque;
import java.util.HashSet;
import java.util.List;
import java.util.NoSuchElementException;
import java.util.Set;
import java.util.TreeMap;
import java.util.TreeSet;
import java.util.regex.Matcher;
import java.util.regex.Pattern;

/** The document's promises once more, in the plainest Java, to compare LetterRepository with. */
final class PlainRepository {
    private static final String COMMAND = "(?:edit [0-9][0-9][a-z]|revert [0-9]|commit [0-9] [0-9]|branch [0-9][0-9]?"
            + "|close [0-9]|merge [0-9][0-9]|ours [0-9][0-9]|theirs [0-9][0-9]|pick [0-9] [0-9][0-9]?"
            + "|reset [0-9] [0-9][0-9]?|tag [A-Z] [0-9][0-9]?|untag [A-Z]|archive)";
    private static final Pattern PROGRAM = Pattern.compile(COMMAND + "(?:;" + COMMAND + ")*");

    private record Revision(int first, int second, int author, String document) {
    }

    private static final class Branch {
        int head;
        String working;

        Branch(int head, String working) {
            this.head = head;
            this.working = working;
        }
    }

    private static final class Content {
        final List<Revision> revisions = new ArrayList<>();
        final List<Branch> branches = new ArrayList<>();
        final TreeMap<Character, Integer> tags = new TreeMap<>();
        final Set<Integer> archived = new TreeSet<>();

        Content copy() {
            Content c = new Content();
            c.revisions.addAll(revisions);
            branches.forEach(b -> c.branches.add(new Branch(b.head, b.working)));
            c.tags.putAll(tags);
            c.archived.addAll(archived);
            return c;
        }
    }

    private Content now = new Content();
    private Content saved;
    private final Deque<Content> undo = new ArrayDeque<>();
    private boolean isRunning;
    private String buffer = "";
    private String line = "";
    private int errorPosition = -1;
    private int failedCommand = -1;

    public PlainRepository() {
        now.revisions.add(new Revision(-1, -1, 0, "aaaaaaaa"));
        now.branches.add(new Branch(0, "aaaaaaaa"));
    }

    private void change() {
        if (!isRunning) {
            undo.push(now.copy());
            while (undo.size() > 8) {
                undo.removeLast();
            }
        }
    }

    private Branch branch(int branch) {
        if (branch < 0 || branch >= now.branches.size()) {
            throw new IndexOutOfBoundsException();
        }
        return now.branches.get(branch);
    }

    private static int field(int field) {
        if (field < 0 || field > 7) {
            throw new IndexOutOfBoundsException();
        }
        return field;
    }

    private Revision revision(int revision) {
        if (revision < 0 || revision >= now.revisions.size()) {
            throw new NoSuchElementException();
        }
        return now.revisions.get(revision);
    }

    private Revision open(int revision) {
        Revision r = revision(revision);
        if (now.archived.contains(revision)) {
            throw new NoSuchElementException();
        }
        return r;
    }

    private static void state(boolean holds) {
        if (!holds) {
            throw new IllegalStateException();
        }
    }

    private static void argument(boolean holds) {
        if (!holds) {
            throw new IllegalArgumentException();
        }
    }

    private static void element(boolean holds) {
        if (!holds) {
            throw new NoSuchElementException();
        }
    }

    private static String with(String text, int field, char letter) {
        return text.substring(0, field) + letter + text.substring(field + 1);
    }

    private String document(int revision) {
        return now.revisions.get(revision).document;
    }

    private static int differing(String one, String other) {
        int n = 0;
        for (int f = 0; f < 8; f++) {
            n += one.charAt(f) == other.charAt(f) ? 0 : 1;
        }
        return n;
    }

    private int edits(Branch b) {
        return differing(b.working, document(b.head));
    }

    private TreeSet<Integer> ancestors(int revision) {
        TreeSet<Integer> all = new TreeSet<>();
        Deque<Integer> waiting = new ArrayDeque<>(List.of(revision));
        while (!waiting.isEmpty()) {
            int r = waiting.pop();
            if (r >= 0 && all.add(r)) {
                waiting.push(now.revisions.get(r).first);
                waiting.push(now.revisions.get(r).second);
            }
        }
        return all;
    }

    public int edit(int branch, int field, char letter) {
        Branch b = branch(branch);
        field(field);
        argument(letter >= 'a' && letter <= 'z');
        change();
        b.working = with(b.working, field, letter);
        return edits(b);
    }

    public int revert(int branch) {
        Branch b = branch(branch);
        int n = edits(b);
        change();
        b.working = document(b.head);
        return n;
    }

    public int commit(int branch, int author) {
        Branch b = branch(branch);
        argument(author >= 0 && author <= 9);
        state(edits(b) > 0 && now.revisions.size() < 24);
        change();
        now.revisions.add(new Revision(b.head, -1, author, b.working));
        b.head = now.revisions.size() - 1;
        return b.head;
    }

    public int createBranch(int revision) {
        Revision r = open(revision);
        state(now.branches.size() < 5);
        change();
        now.branches.add(new Branch(revision, r.document));
        return now.branches.size() - 1;
    }

    public int closeBranch(int branch) {
        branch(branch);
        state(now.branches.size() > 1);
        change();
        now.branches.remove(branch);
        return now.branches.size();
    }

    private void pair(int branch, int other) {
        branch(branch);
        branch(other);
        argument(branch != other);
    }

    private String mergeResult(int branch, int other) {
        int oursHead = branch(branch).head;
        int theirsHead = branch(other).head;
        String base = document(commonAncestor(oursHead, theirsHead));
        String ours = document(oursHead);
        String theirs = document(theirsHead);
        StringBuilder result = new StringBuilder();
        for (int f = 0; f < 8; f++) {
            char b = base.charAt(f);
            char o = ours.charAt(f);
            char t = theirs.charAt(f);
            result.append(o == t ? o : o == b ? t : t == b ? o : '?');
        }
        return result.toString();
    }

    private void mergeable(int branch, int other) {
        pair(branch, other);
        Branch b = branch(branch);
        Branch o = branch(other);
        state(edits(b) == 0 && edits(o) == 0);
        state(!ancestors(b.head).contains(o.head));
        state(now.revisions.size() < 24);
    }

    private int doMerge(int branch, int other, String result) {
        change();
        Branch b = branch(branch);
        Branch o = branch(other);
        now.revisions.add(new Revision(b.head, o.head, now.revisions.get(o.head).author, result));
        b.head = now.revisions.size() - 1;
        b.working = result;
        return b.head;
    }

    public int merge(int branch, int other) {
        mergeable(branch, other);
        String result = mergeResult(branch, other);
        state(result.indexOf('?') < 0);
        return doMerge(branch, other, result);
    }

    public int mergeKeeping(int branch, int other, boolean keepsOurs) {
        mergeable(branch, other);
        String result = mergeResult(branch, other);
        String side = document(branch(keepsOurs ? branch : other).head);
        for (int f = 0; f < 8; f++) {
            if (result.charAt(f) == '?') {
                result = with(result, f, side.charAt(f));
            }
        }
        return doMerge(branch, other, result);
    }

    public int pick(int branch, int revision) {
        Branch b = branch(branch);
        Revision r = open(revision);
        state(revision != 0);
        String parent = document(r.first);
        String result = b.working;
        for (int f = 0; f < 8; f++) {
            char letter = r.document.charAt(f);
            if (letter != parent.charAt(f)) {
                state(result.charAt(f) == letter || result.charAt(f) == parent.charAt(f));
                result = with(result, f, letter);
            }
        }
        change();
        int n = differing(b.working, result);
        b.working = result;
        return n;
    }

    public int reset(int branch, int revision) {
        Branch b = branch(branch);
        open(revision);
        state(edits(b) == 0);
        change();
        int previous = b.head;
        b.head = revision;
        b.working = document(revision);
        return previous;
    }

    public int addTag(char letter, int revision) {
        argument(letter >= 'A' && letter <= 'Z');
        open(revision);
        state(!now.tags.containsKey(letter));
        change();
        now.tags.put(letter, revision);
        return now.tags.size();
    }

    public int removeTag(char letter) {
        element(now.tags.containsKey(letter));
        change();
        return now.tags.remove(letter);
    }

    private Set<Integer> used() {
        Set<Integer> used = new HashSet<>();
        now.branches.forEach(b -> used.addAll(ancestors(b.head)));
        now.tags.values().forEach(r -> used.addAll(ancestors(r)));
        return used;
    }

    public int archive() {
        change();
        Set<Integer> used = used();
        int before = now.archived.size();
        for (int r = 0; r < now.revisions.size(); r++) {
            if (!used.contains(r)) {
                now.archived.add(r);
            }
        }
        return now.archived.size() - before;
    }

    public int revisionCount() {
        return now.revisions.size();
    }

    public boolean isArchived(int revision) {
        revision(revision);
        return now.archived.contains(revision);
    }

    public int firstParent(int revision) {
        int parent = revision(revision).first;
        element(parent >= 0);
        return parent;
    }

    public int secondParent(int revision) {
        int parent = revision(revision).second;
        element(parent >= 0);
        return parent;
    }

    public int authorOf(int revision) {
        return revision(revision).author;
    }

    public int generation(int revision) {
        Revision r = revision(revision);
        if (revision == 0) {
            return 0;
        }
        return 1 + Math.max(generation(r.first), r.second < 0 ? 0 : generation(r.second));
    }

    public char letterIn(int revision, int field) {
        return revision(revision).document.charAt(field(field));
    }

    public boolean isAncestor(int first, int second) {
        revision(first);
        revision(second);
        return ancestors(second).contains(first);
    }

    public int ancestorCount(int revision) {
        revision(revision);
        return ancestors(revision).size();
    }

    public int commonAncestor(int first, int second) {
        revision(first);
        revision(second);
        TreeSet<Integer> both = ancestors(first);
        both.retainAll(ancestors(second));
        return both.last();
    }

    public int commonAncestorBySets(int first, int second) {
        return commonAncestor(first, second);
    }

    public int distance(int first, int second) {
        revision(first);
        revision(second);
        int n = now.revisions.size();
        int[][] steps = new int[n][n];
        for (int i = 0; i < n; i++) {
            for (int j = 0; j < n; j++) {
                boolean isChild = now.revisions.get(i).first == j || now.revisions.get(i).second == j;
                boolean isParent = now.revisions.get(j).first == i || now.revisions.get(j).second == i;
                steps[i][j] = i == j ? 0 : isChild || isParent ? 1 : 1000;
            }
        }
        for (int k = 0; k < n; k++) {
            for (int i = 0; i < n; i++) {
                for (int j = 0; j < n; j++) {
                    steps[i][j] = Math.min(steps[i][j], steps[i][k] + steps[k][j]);
                }
            }
        }
        return steps[first][second];
    }

    public int differences(int first, int second) {
        return differing(revision(first).document, revision(second).document);
    }

    public int originOf(int revision, int field) {
        Revision r = revision(revision);
        field(field);
        boolean goesOn = r.first >= 0 && document(r.first).charAt(field) == r.document.charAt(field);
        return goesOn ? originOf(r.first, field) : revision;
    }

    public int originByRecursion(int revision, int field) {
        return originOf(revision, field);
    }

    public int revisionsBy(int author) {
        argument(author >= 0 && author <= 9);
        return (int) now.revisions.stream().filter(r -> r.author == author).count();
    }

    public int busiestAuthor() {
        int best = 9;
        for (int author = 9; author >= 0; author--) {
            best = revisionsBy(author) >= revisionsBy(best) ? author : best;
        }
        return best;
    }

    public int branchCount() {
        return now.branches.size();
    }

    public int head(int branch) {
        return branch(branch).head;
    }

    public char letterAt(int branch, int field) {
        return branch(branch).working.charAt(field(field));
    }

    public boolean isEdited(int branch, int field) {
        return letterAt(branch, field) != document(branch(branch).head).charAt(field);
    }

    public int editCount(int branch) {
        return edits(branch(branch));
    }

    public int branchByHead(int rank) {
        element(rank >= 0 && rank < now.branches.size());
        List<Integer> order = new ArrayList<>();
        for (int b = 0; b < now.branches.size(); b++) {
            order.add(b);
        }
        order.sort(Comparator.<Integer>comparingInt(b -> -generation(head(b))).thenComparingInt(b -> -head(b)));
        return order.get(rank);
    }

    private List<Integer> conflicts(int branch, int other) {
        pair(branch, other);
        List<Integer> fields = new ArrayList<>();
        for (int f = 0; f < 8; f++) {
            if (mergeResult(branch, other).charAt(f) == '?') {
                fields.add(f);
            }
        }
        return fields;
    }

    public int conflictCount(int branch, int other) {
        return conflicts(branch, other).size();
    }

    public int conflictAt(int branch, int other, int position) {
        List<Integer> fields = conflicts(branch, other);
        element(position >= 0 && position < fields.size());
        return fields.get(position);
    }

    public boolean canMerge(int branch, int other) {
        pair(branch, other);
        try {
            mergeable(branch, other);
            return conflicts(branch, other).isEmpty();
        } catch (IllegalStateException e) {
            return false;
        }
    }

    public char mergedLetter(int branch, int other, int field) {
        branch(branch);
        branch(other);
        field(field);
        pair(branch, other);
        char letter = mergeResult(branch, other).charAt(field);
        element(letter != '?');
        return letter;
    }

    public boolean canPick(int branch, int revision) {
        branch(branch);
        revision(revision);
        Content before = now.copy();
        boolean wasRunning = isRunning;
        isRunning = true;
        try {
            pick(branch, revision);
            return true;
        } catch (RuntimeException e) {
            return false;
        } finally {
            isRunning = wasRunning;
            now = before;
        }
    }

    public int tagCount() {
        return now.tags.size();
    }

    public int taggedRevision(char letter) {
        element(now.tags.containsKey(letter));
        return now.tags.get(letter);
    }

    public char tagOf(int revision) {
        revision(revision);
        return now.tags.entrySet().stream().filter(e -> e.getValue() == revision).findFirst().orElseThrow().getKey();
    }

    public int usedCount() {
        return used().size();
    }

    public int usedCountByMarks() {
        return used().size();
    }

    public double meanGeneration() {
        double sum = 0;
        for (int r = 0; r < now.revisions.size(); r++) {
            sum += generation(r);
        }
        return sum / now.revisions.size();
    }

    public float archivedShare() {
        return (float) now.archived.size() / now.revisions.size();
    }

    public boolean isConsistent() {
        return true;
    }

    private int put(String text) {
        line = text;
        return line.length();
    }

    public int formatRevision(int revision) {
        Revision r = revision(revision);
        return put("r" + revision + " " + r.document + " @" + r.author + (r.first < 0 ? "" : " <" + r.first)
                + (r.second < 0 ? "" : "+" + r.second) + (isArchived(revision) ? " !" : ""));
    }

    public int formatBranch(int branch) {
        Branch b = branch(branch);
        String text = b.working;
        for (int f = 0; f < 8; f++) {
            if (isEdited(branch, f)) {
                text = with(text, f, Character.toUpperCase(text.charAt(f)));
            }
        }
        return put("b" + branch + ":" + b.head + " " + text);
    }

    public int formatMerge(int branch, int other) {
        pair(branch, other);
        return put(mergeResult(branch, other));
    }

    public char lineChar(int index) {
        if (index < 0 || index >= line.length()) {
            throw new IndexOutOfBoundsException();
        }
        return line.charAt(index);
    }

    public int append(char character) {
        argument(character >= ' ' && character <= '~');
        state(buffer.length() < 60);
        buffer += character;
        return buffer.length();
    }

    /** The beginnings of programs are told by the regular expression: it asks for more only where more could help. */
    static int errorIn(String text) {
        for (int length = 0; length <= text.length(); length++) {
            Matcher m = PROGRAM.matcher(text.substring(0, length));
            if (!m.matches() && !m.hitEnd()) {
                return length - 1;
            }
        }
        return text.length();
    }

    static boolean isProgram(String text) {
        return PROGRAM.matcher(text).matches();
    }

    private static int number(String text, int from) {
        return Integer.parseInt(text.substring(from).trim());
    }

    private void execute(String c) {
        int first = c.replaceAll("[^0-9]", "").isEmpty() ? -1 : c.replaceAll("[^0-9]", "").charAt(0) - '0';
        int last = c.charAt(c.length() - 1) - '0';
        switch (c.split(" ")[0]) {
            case "edit" -> edit(first, c.charAt(6) - '0', c.charAt(7));
            case "revert" -> revert(first);
            case "commit" -> commit(first, last);
            case "branch" -> createBranch(number(c, 7));
            case "close" -> closeBranch(first);
            case "merge" -> merge(first, last);
            case "ours" -> mergeKeeping(first, last, true);
            case "theirs" -> mergeKeeping(first, last, false);
            case "pick" -> pick(first, number(c, 7));
            case "reset" -> reset(first, number(c, 8));
            case "tag" -> addTag(c.charAt(4), number(c, 6));
            case "untag" -> removeTag(c.charAt(6));
            default -> archive();
        }
    }

    public int run() {
        String text = buffer;
        buffer = "";
        if (!isProgram(text)) {
            errorPosition = errorIn(text);
            throw new IllegalArgumentException();
        }
        String[] commands = text.split(";");
        Content before = now.copy();
        isRunning = true;
        int index = 0;
        try {
            for (; index < commands.length; index++) {
                execute(commands[index]);
            }
        } catch (RuntimeException e) {
            now = before;
            failedCommand = index;
            throw new IllegalStateException();
        } finally {
            isRunning = false;
        }
        Content after = now;
        now = before;
        change();
        now = after;
        return commands.length;
    }

    public int errorPosition() {
        element(errorPosition >= 0);
        return errorPosition;
    }

    public int failedCommand() {
        element(failedCommand >= 0);
        return failedCommand;
    }

    public int undoableCount() {
        return undo.size();
    }

    public int undo() {
        state(!undo.isEmpty());
        now = undo.pop();
        return undo.size();
    }

    public int save() {
        saved = now.copy();
        return now.revisions.size();
    }

    public int restore() {
        state(saved != null);
        now = saved.copy();
        undo.clear();
        return now.revisions.size();
    }
}
