/** An object that is never used for more calls than the document allows. */
final class Counted {
    private static final int MOST_CALLS = 512;

    private final UndoMemory memory = new UndoMemory();
    private int calls = 0;

    int calls() {
        return calls;
    }

    private UndoMemory once() {
        calls++;
        if (calls > MOST_CALLS) {
            throw new IllegalStateException("a test makes more calls than the document allows");
        }
        return memory;
    }

    int set(int cell, int v) { return once().set(cell, v); }
    int add(int counter, long d) { return once().add(counter, d); }
    int insert(int row, int at, int v) { return once().insert(row, at, v); }
    int remove(int row, int at) { return once().remove(row, at); }
    int move(int row, int from, int to) { return once().move(row, from, to); }
    int node(int parent) { return once().node(parent); }
    int unlink(int node) { return once().unlink(node); }
    int link(int node, int parent) { return once().link(node, parent); }
    int undo(int step, boolean along) { return once().undo(step, along); }
    int redo(int step) { return once().redo(step); }
    int taken(int i) { return once().taken(i); }
    int dependsOn(int a, int b) { return once().dependsOn(a, b) ? 1 : 0; }
    int undoLast() { return once().undoLast(); }
    int redoNext() { return once().redoNext(); }
    int squash() { return once().squash(); }
    int active(int step) { return once().active(step); }
    int count(int what) { return once().count(what); }
    int history(int i, int what) { return once().history(i, what); }
    int cell(int c) { return once().cell(c); }
    long counter(int k) { return once().counter(k); }
    int length(int row) { return once().length(row); }
    int element(int row, int i) { return once().element(row, i); }
    int value(int step) { return once().value(step); }
    int parent(int node) { return once().parent(node); }
}
