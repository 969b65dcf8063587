import java.util.Arrays;

/**
 * A memory of cells, counters, rows and a tree of nodes that keeps its steps,
 * so that any of them can be undone and done again.
 */
public final class UndoMemory {
    /** Nothing there. */
    public static final int NONE = -1;

    private static final int CELLS = 8;
    private static final int COUNTERS = 4;
    private static final int ROWS = 3;
    private static final int MOST_STEPS = 200;
    private static final int MOST_INSERTS = 40;
    private static final int ROOT = 0;
    // Halved again and again, it adds up to more than MOST_STEPS.
    private static final int WIDEST_STRIDE = 128;

    private static final int SET = 1;
    private static final int ADD = 2;
    private static final int INSERT = 3;
    private static final int REMOVE = 4;
    private static final int MOVE = 5;
    private static final int NODE = 6;
    private static final int UNLINK = 7;
    private static final int LINK = 8;

    private static final int[] NO_PLACE = {};

    private final Step[] steps;
    private int size;
    private int latestNumber;

    // Two replays that change roles: a trial that fails leaves the memory as it was.
    private Replay memory;
    private Replay trial;

    // Indexes of the history.
    private final int[] impossible;
    private int impossibleCount;
    // Numbers of steps, which may have left the history since.
    private final int[] takenAlong;
    private int takenCount;

    public UndoMemory() {
        steps = new Step[MOST_STEPS];
        memory = new Replay();
        trial = new Replay();
        impossible = new int[MOST_STEPS];
        takenAlong = new int[MOST_STEPS];
    }

    public int set(int cell, int v) {
        if (!isIndex(cell, CELLS) || isFull()) {
            return 0;
        }
        return make(SET, cell, 0, v, NO_PLACE);
    }

    public int add(int counter, long d) {
        if (!isIndex(counter, COUNTERS) || isFull()) {
            return 0;
        }
        return make(ADD, counter, 0, d, NO_PLACE);
    }

    public int insert(int row, int at, int v) {
        if (!isIndex(row, ROWS) || isFull() || insertsOf(row) >= MOST_INSERTS) {
            return 0;
        }
        if (!isIndex(at, memory.lengths[row] + 1)) {
            return 0;
        }
        return make(INSERT, row, 0, v, memory.placeBefore(row, at, 0));
    }

    public int remove(int row, int at) {
        int element = element(row, at);
        if (element == 0 || isFull()) {
            return 0;
        }
        return make(REMOVE, row, element, 0, NO_PLACE);
    }

    public int move(int row, int from, int to) {
        int element = element(row, from);
        if (element == 0 || !isIndex(to, memory.lengths[row]) || isFull()) {
            return 0;
        }
        return make(MOVE, row, element, 0, memory.placeBefore(row, to, element));
    }

    public int node(int parent) {
        return isFull() ? 0 : make(NODE, 0, parent, 0, NO_PLACE);
    }

    public int unlink(int node) {
        return isFull() ? 0 : make(UNLINK, node, 0, 0, NO_PLACE);
    }

    public int link(int node, int parent) {
        return isFull() ? 0 : make(LINK, node, parent, 0, NO_PLACE);
    }

    public int undo(int step, boolean along) {
        int at = indexOf(step);
        if (at == NONE || !steps[at].active) {
            return 0;
        }
        steps[at].active = false;
        replayActive();
        if (impossibleCount > 0 && !along) {
            steps[at].active = true;
            return -steps[impossible[0]].number;
        }
        takeImpossibleAlong();
        keepTrial();
        return 1;
    }

    public int redo(int step) {
        int at = indexOf(step);
        if (at == NONE || steps[at].active) {
            return 0;
        }
        steps[at].active = true;
        replayActive();
        if (impossibleCount > 0) {
            steps[at].active = false;
            return -steps[impossible[0]].number;
        }
        keepTrial();
        return 1;
    }

    public int taken(int i) {
        return isIndex(i, takenCount) ? takenAlong[i] : NONE;
    }

    public boolean dependsOn(int a, int b) {
        int later = indexOf(a);
        int earlier = indexOf(b);
        if (later == NONE || earlier == NONE || earlier >= later || !steps[earlier].active) {
            return false;
        }
        trial.begin();
        for (int i = 0; i < later; i++) {
            if (steps[i].active && i != earlier) {
                trial.attempt(steps[i]);
            }
        }
        return trial.isImpossible(steps[later]);
    }

    public int undoLast() {
        int at = latestActive();
        if (at == NONE) {
            return 0;
        }
        int number = steps[at].number;
        // No active step stands behind it, so none can become impossible.
        undo(number, false);
        return number;
    }

    public int redoNext() {
        // All steps behind the latest active one are undone; NONE + 1 is the first step of all.
        int at = latestActive() + 1;
        if (at >= size) {
            return 0;
        }
        int number = steps[at].number;
        return redo(number) == 1 ? number : 0;
    }

    public int squash() {
        int left = 0;
        for (int i = 0; i < size; i++) {
            if (steps[i].active) {
                steps[left] = steps[i];
                left++;
            }
        }
        for (int i = left; i < size; i++) {
            steps[i] = null;
        }
        size = left;
        return left;
    }

    public int active(int step) {
        int at = indexOf(step);
        if (at == NONE) {
            return NONE;
        }
        return steps[at].active ? 1 : 0;
    }

    public int count(int what) {
        switch (what) {
            case 0:
                return size;
            case 1:
                return latestNumber;
            case 2:
                return countActive();
            default:
                return NONE;
        }
    }

    public int history(int i, int what) {
        if (!isIndex(i, size)) {
            return NONE;
        }
        switch (what) {
            case 0:
                return steps[i].number;
            case 1:
                return steps[i].kind;
            case 2:
                return steps[i].target;
            default:
                return NONE;
        }
    }

    public int cell(int c) {
        return isIndex(c, CELLS) ? memory.cells[c] : 0;
    }

    public long counter(int k) {
        return isIndex(k, COUNTERS) ? memory.counters[k] : 0;
    }

    public int length(int row) {
        return isIndex(row, ROWS) ? memory.lengths[row] : NONE;
    }

    public int element(int row, int i) {
        if (!isIndex(row, ROWS) || !isIndex(i, memory.lengths[row])) {
            return 0;
        }
        return memory.rows[row][i];
    }

    public int value(int step) {
        int at = indexOf(step);
        if (at == NONE || steps[at].kind != INSERT) {
            return 0;
        }
        return (int) steps[at].amount;
    }

    public int parent(int node) {
        return memory.parentOf(node);
    }

    private static boolean isIndex(int i, int bound) {
        return i >= 0 && i < bound;
    }

    private boolean isFull() {
        return size >= MOST_STEPS;
    }

    private int insertsOf(int row) {
        int inserts = 0;
        for (int i = 0; i < size; i++) {
            if (steps[i].kind == INSERT && steps[i].target == row) {
                inserts++;
            }
        }
        return inserts;
    }

    /** Does a new step and keeps it; 0 if it is impossible. The history must have room. */
    private int make(int kind, int target, int named, long amount, int[] place) {
        Step step = new Step(latestNumber + 1, kind, target, named, amount, place);
        if (!memory.attempt(step)) {
            return 0;
        }
        steps[size] = step;
        size++;
        latestNumber = step.number;
        return step.number;
    }

    private int indexOf(int number) {
        for (int i = 0; i < size; i++) {
            if (steps[i].number == number) {
                return i;
            }
        }
        return NONE;
    }

    private int latestActive() {
        for (int i = size - 1; i >= 0; i--) {
            if (steps[i].active) {
                return i;
            }
        }
        return NONE;
    }

    private int countActive() {
        int found = 0;
        for (int i = 0; i < size; i++) {
            if (steps[i].active) {
                found++;
            }
        }
        return found;
    }

    /** Replays the active steps in the trial and lists those that are impossible there. */
    private void replayActive() {
        trial.begin();
        impossibleCount = 0;
        for (int i = 0; i < size; i++) {
            if (steps[i].active && !trial.attempt(steps[i])) {
                impossible[impossibleCount] = i;
                impossibleCount++;
            }
        }
    }

    /**
     * An impossible step is passed over, so undoing it changes nothing in the replay of the rest:
     * one replay finds all that would be found by undoing the least one again and again.
     */
    private void takeImpossibleAlong() {
        takenCount = impossibleCount;
        for (int i = 0; i < impossibleCount; i++) {
            Step step = steps[impossible[i]];
            step.active = false;
            takenAlong[i] = step.number;
        }
    }

    private void keepTrial() {
        Replay former = memory;
        memory = trial;
        trial = former;
    }

    /** One step of the history. */
    private static final class Step {
        private final int number;
        private final int kind;
        /** The cell, counter, row, or node n; 0 of NODE. */
        private final int target;
        /** The element of REMOVE and MOVE, the node p of NODE and LINK. */
        private final int named;
        /** The v of SET and INSERT, the d of ADD. */
        private final long amount;
        /** Of INSERT and MOVE: the elements that stood before, the nearest one first. */
        private final int[] place;
        private boolean active;

        Step(int number, int kind, int target, int named, long amount, int[] place) {
            this.number = number;
            this.kind = kind;
            this.target = target;
            this.named = named;
            this.amount = amount;
            this.place = place;
            this.active = true;
        }
    }

    /** What some steps, done in order, have made. */
    private static final class Replay {
        private final int[] cells;
        private final long[] counters;
        private final int[][] rows;
        private final int[] lengths;
        /** Elements whose INSERT was done, standing or not; the numbers rise. */
        private final int[] elements;
        private int elementCount;
        /** Nodes whose NODE was done; the numbers rise. */
        private final int[] nodes;
        /** What each of the nodes is under: a node, ROOT, or NONE. */
        private final int[] parents;
        private int nodeCount;

        Replay() {
            cells = new int[CELLS];
            counters = new long[COUNTERS];
            rows = new int[ROWS][MOST_INSERTS];
            lengths = new int[ROWS];
            elements = new int[ROWS * MOST_INSERTS];
            nodes = new int[MOST_STEPS];
            parents = new int[MOST_STEPS];
        }

        void begin() {
            Arrays.fill(cells, 0);
            Arrays.fill(counters, 0L);
            Arrays.fill(lengths, 0);
            elementCount = 0;
            nodeCount = 0;
        }

        /** Does a step; false, and nothing happens, if it is impossible. */
        boolean attempt(Step step) {
            if (isImpossible(step)) {
                return false;
            }
            perform(step);
            return true;
        }

        boolean isImpossible(Step step) {
            switch (step.kind) {
                case REMOVE:
                case MOVE:
                    return !hasElement(step.named);
                case NODE:
                    return step.named != ROOT && !hasNode(step.named);
                case UNLINK:
                    return !hasNode(step.target);
                case LINK:
                    return !hasNode(step.target) || (step.named != ROOT
                        && (!hasNode(step.named) || isAtOrBelow(step.named, step.target)));
                default:
                    return false;
            }
        }

        private void perform(Step step) {
            switch (step.kind) {
                case SET:
                    cells[step.target] = (int) step.amount;
                    break;
                case ADD:
                    counters[step.target] += step.amount;
                    break;
                case INSERT:
                    elements[elementCount] = step.number;
                    elementCount++;
                    putElement(step.target, indexBehind(step.target, step.place), step.number);
                    break;
                case REMOVE:
                    takeElement(step.target, step.named);
                    break;
                case MOVE:
                    if (takeElement(step.target, step.named)) {
                        putElement(step.target, indexBehind(step.target, step.place), step.named);
                    }
                    break;
                case NODE:
                    nodes[nodeCount] = step.number;
                    parents[nodeCount] = step.named;
                    nodeCount++;
                    break;
                case UNLINK:
                    hang(step.target, NONE);
                    break;
                case LINK:
                    hang(step.target, step.named);
                    break;
                default:
                    break;
            }
        }

        /** The place at an index of a row, as if one element of it were not there (0: all are). */
        int[] placeBefore(int row, int at, int without) {
            int[] place = new int[at];
            int left = at;
            for (int i = 0; i < lengths[row] && left > 0; i++) {
                if (rows[row][i] != without) {
                    left--;
                    place[left] = rows[row][i];
                }
            }
            return place;
        }

        int parentOf(int node) {
            int at = search(nodes, nodeCount, node);
            return at == NONE ? NONE : parents[at];
        }

        private boolean hasElement(int element) {
            return search(elements, elementCount, element) != NONE;
        }

        private boolean hasNode(int node) {
            return search(nodes, nodeCount, node) != NONE;
        }

        private boolean isAtOrBelow(int low, int high) {
            int node = low;
            for (int i = 0; i <= nodeCount && node > ROOT; i++) {
                if (node == high) {
                    return true;
                }
                int at = search(nodes, nodeCount, node);
                node = at == NONE ? NONE : parents[at];
            }
            return false;
        }

        private void hang(int node, int parent) {
            int at = search(nodes, nodeCount, node);
            if (at != NONE) {
                parents[at] = parent;
            }
        }

        private void putElement(int row, int at, int element) {
            int[] line = rows[row];
            System.arraycopy(line, at, line, at + 1, lengths[row] - at);
            line[at] = element;
            lengths[row]++;
        }

        private boolean takeElement(int row, int element) {
            int at = indexIn(row, element);
            if (at == NONE) {
                return false;
            }
            int[] line = rows[row];
            lengths[row]--;
            System.arraycopy(line, at + 1, line, at, lengths[row] - at);
            return true;
        }

        private int indexBehind(int row, int[] place) {
            for (int i = 0; i < place.length; i++) {
                int at = indexIn(row, place[i]);
                if (at != NONE) {
                    return at + 1;
                }
            }
            return 0;
        }

        private int indexIn(int row, int element) {
            for (int i = 0; i < lengths[row]; i++) {
                if (rows[row][i] == element) {
                    return i;
                }
            }
            return NONE;
        }

        /** The index of a number among the first ones of an array, which rise; or NONE. */
        private static int search(int[] rising, int bound, int number) {
            int smaller = 0;
            for (int stride = WIDEST_STRIDE; stride > 0; stride /= 2) {
                if (smaller + stride <= bound && rising[smaller + stride - 1] < number) {
                    smaller += stride;
                }
            }
            return smaller < bound && rising[smaller] == number ? smaller : NONE;
        }
    }
}
