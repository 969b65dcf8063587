/** For each promise of the document: ordinary inputs, the edges that it names, and wrong inputs. */
public final class PromiseTest {
    private static final int NONE = UndoMemory.NONE;
    private static final int MIN = Integer.MIN_VALUE;
    private static final int MAX = Integer.MAX_VALUE;

    private static int wrong = 0;

    private static void due(String what, long got, long want) {
        if (got != want) {
            wrong++;
            System.out.println(what + " answered " + got + ", due is " + want);
        }
    }

    private static void due(String what, boolean got, boolean want) {
        due(what, got ? 1 : 0, want ? 1 : 0);
    }

    private static void dueRow(String what, UndoMemory x, int row, int... elements) {
        due(what + ", length", x.length(row), elements.length);
        for (int i = 0; i < elements.length; i++) {
            due(what + ", element " + i, x.element(row, i), elements[i]);
        }
        due(what + ", behind the last", x.element(row, elements.length), 0);
    }

    private static void dueTaken(String what, UndoMemory x, int... steps) {
        for (int i = 0; i < steps.length; i++) {
            due(what + ", taken " + i, x.taken(i), steps[i]);
        }
        due(what + ", taken behind the last", x.taken(steps.length), NONE);
        due(what + ", taken -1", x.taken(-1), NONE);
    }

    private static UndoMemory withSets(int steps) {
        UndoMemory x = new UndoMemory();
        for (int i = 1; i <= steps; i++) {
            due("set no. " + i, x.set(0, i), i);
        }
        return x;
    }

    public static void main(String[] args) {
        newObject();
        sets();
        adds();
        inserts();
        insertLimit();
        removes();
        moves();
        placesInAReplay();
        nodes();
        unlinks();
        links();
        fullHistory();
        parentsInADeepTree();
        takenInADeepTree();
        redoNextInADeepTree();
        undoes();
        undoAlongInATree();
        redoes();
        redoThatHurtsLaterSteps();
        taken();
        dependsOn();
        dependsOnEdges();
        undoLast();
        redoNext();
        squash();
        active();
        count();
        history();
        reads();
        values();
        parents();
        objectsAreApart();
        System.out.println(wrong == 0 ? "all promises hold" : wrong + " answers are not as due");
        if (wrong != 0) {
            System.exit(1);
        }
    }

    private static void newObject() {
        UndoMemory x = new UndoMemory();
        for (int what = 0; what < 3; what++) {
            due("1: count of a new object", x.count(what), 0);
        }
        due("1: history", x.history(0, 0), NONE);
        due("1: undoLast", x.undoLast(), 0);
        due("1: redoNext", x.redoNext(), 0);
        due("1: squash", x.squash(), 0);
        due("1: taken", x.taken(0), NONE);
        for (int c = 0; c < 8; c++) {
            due("1: cell", x.cell(c), 0);
        }
        for (int k = 0; k < 4; k++) {
            due("1: counter", x.counter(k), 0);
        }
        for (int row = 0; row < 3; row++) {
            dueRow("1: row", x, row);
        }
        due("1: parent of the root", x.parent(0), NONE);
        due("1: parent", x.parent(1), NONE);
    }

    private static void sets() {
        UndoMemory x = new UndoMemory();
        due("2: set", x.set(0, 5), 1);
        due("2: set the last cell", x.set(7, MIN), 2);
        due("2: set again", x.set(0, MAX), 3);
        due("2: cell", x.cell(0), MAX);
        due("2: last cell", x.cell(7), MIN);
        due("2: a cell between", x.cell(1), 0);
        due("2: no cell 8", x.set(8, 1), 0);
        due("2: no cell -1", x.set(-1, 1), 0);
        due("2: no such cells", x.set(MIN, 1) + x.set(MAX, 1), 0);
        due("2: refused sets are no steps", x.count(0), 3);
        due("2: nor give numbers", x.set(1, 1), 4);
        due("2: the same value is a step", x.set(1, 1), 5);
    }

    private static void adds() {
        UndoMemory x = new UndoMemory();
        due("3: add", x.add(0, 5), 1);
        due("3: add", x.add(3, Long.MAX_VALUE), 2);
        due("3: add below 0", x.add(0, -7), 3);
        due("3: add 0", x.add(1, 0), 4);
        due("3: counter", x.counter(0), -2);
        due("3: add over the end", x.add(3, 2), 5);
        due("3: a counter runs over", x.counter(3), Long.MIN_VALUE + 1);
        due("3: a long's size", x.add(2, 1L << 40), 6);
        due("3: a long is kept", x.counter(2), 1L << 40);
        due("3: no counter 4", x.add(4, 1), 0);
        due("3: no counter -1", x.add(-1, 1), 0);
        due("3: no such counters", x.add(MIN, 1) + x.add(MAX, 1), 0);
        due("3: nothing happened", x.count(1), 6);
        x.undo(1, false);
        due("3: undone in the middle", x.counter(0), -7);
        x.undo(2, false);
        due("3: undone under a later one", x.counter(3), 2);
    }

    private static void inserts() {
        UndoMemory x = new UndoMemory();
        due("4: index 1 of none", x.insert(0, 1, 1), 0);
        due("4: first", x.insert(0, 0, 10), 1);
        due("4: behind", x.insert(0, 1, 20), 2);
        due("4: before", x.insert(0, 0, 30), 3);
        due("4: between", x.insert(0, 2, 40), 4);
        dueRow("4: row", x, 0, 3, 1, 4, 2);
        due("4: index 5 of 4", x.insert(0, 5, 1), 0);
        due("4: index -1", x.insert(0, -1, 1), 0);
        due("4: far indexes", x.insert(0, MIN, 1) + x.insert(0, MAX, 1), 0);
        due("4: no row 3", x.insert(3, 0, 1), 0);
        due("4: no row -1", x.insert(-1, 0, 1), 0);
        due("4: the last row", x.insert(2, 0, 1), 5);
        dueRow("4: the last row", x, 2, 5);
        dueRow("4: the row between", x, 1);
        due("4: at the end", x.insert(0, 4, 1), 6);
        dueRow("4: row", x, 0, 3, 1, 4, 2, 6);
    }

    private static void insertLimit() {
        UndoMemory x = new UndoMemory();
        for (int i = 1; i <= 40; i++) {
            due("4: insert no. " + i, x.insert(1, i - 1, i), i);
        }
        due("4: a 41st insert", x.insert(1, 0, 1), 0);
        due("4: another row has its own", x.insert(0, 0, 1), 41);
        due("4: remove", x.remove(1, 0), 42);
        due("4: removed ones count", x.insert(1, 0, 1), 0);
        due("4: undo", x.undo(40, false), 1);
        due("4: undone ones count", x.insert(1, 0, 1), 0);
        due("4: squash", x.squash(), 41);
        due("4: squashed ones do not count", x.insert(1, 38, 1), 43);
        due("4: the limit again", x.insert(1, 0, 1), 0);
        due("4: length", x.length(1), 39);
        due("4: the last one", x.element(1, 38), 43);
        due("4: the one before", x.element(1, 37), 39);
        due("4: taken back", x.undo(42, false), 1);
        due("4: all forty stand", x.length(1), 40);
        due("4: the first one", x.element(1, 0), 1);
        due("4: a move in the whole row", x.move(1, 39, 0), 44);
        due("4: is first", x.element(1, 0), 43);
        due("4: is behind it", x.element(1, 1), 1);
        due("4: a move back", x.move(1, 0, 39), 45);
        due("4: is last", x.element(1, 39), 43);
    }

    private static void removes() {
        UndoMemory x = new UndoMemory();
        due("5: of none", x.remove(0, 0), 0);
        x.insert(0, 0, 1);
        x.insert(0, 1, 2);
        x.insert(0, 2, 3);
        due("5: no index 3", x.remove(0, 3), 0);
        due("5: no index -1", x.remove(0, -1), 0);
        due("5: no row 3", x.remove(3, 0), 0);
        due("5: no row -1", x.remove(-1, 0), 0);
        due("5: far", x.remove(MIN, MIN) + x.remove(MAX, MAX), 0);
        due("5: remove", x.remove(0, 1), 4);
        dueRow("5: row", x, 0, 1, 3);
        due("5: undo", x.undo(4, false), 1);
        dueRow("5: row", x, 0, 1, 2, 3);
        due("5: remove anew", x.remove(0, 1), 5);
        due("5: redo of the other remove", x.redo(4), 1);
        dueRow("5: what goes twice is gone", x, 0, 1, 3);
        due("5: undo of one", x.undo(5, false), 1);
        dueRow("5: and still gone", x, 0, 1, 3);
        due("5: the last one", x.remove(0, 1), 6);
        due("5: the first one", x.remove(0, 0), 7);
        dueRow("5: row", x, 0);
    }

    private static void moves() {
        UndoMemory x = new UndoMemory();
        due("6: of none", x.move(0, 0, 0), 0);
        for (int i = 0; i < 4; i++) {
            x.insert(0, i, i);
        }
        due("6: no index 4", x.move(0, 4, 0), 0);
        due("6: no index -1", x.move(0, -1, 0), 0);
        due("6: not to 4", x.move(0, 0, 4), 0);
        due("6: not to -1", x.move(0, 0, -1), 0);
        due("6: no row 3", x.move(3, 0, 0), 0);
        due("6: no row -1", x.move(-1, 0, 0), 0);
        due("6: another row", x.move(1, 0, 0), 0);
        due("6: far", x.move(0, MIN, 0) + x.move(0, 0, MAX) + x.move(0, MAX, 0) + x.move(0, 0, MIN), 0);
        due("6: up", x.move(0, 0, 2), 5);
        dueRow("6: row", x, 0, 2, 3, 1, 4);
        due("6: a move makes no node", x.parent(5), NONE);
        due("6: down", x.move(0, 3, 1), 6);
        dueRow("6: row", x, 0, 2, 4, 3, 1);
        due("6: the same index", x.move(0, 2, 2), 7);
        dueRow("6: row", x, 0, 2, 4, 3, 1);
        due("6: to the end", x.move(0, 0, 3), 8);
        due("6: to the front", x.move(0, 2, 0), 9);
        dueRow("6: row", x, 0, 1, 4, 3, 2);
        due("6: undo", x.undo(9, false), 1);
        dueRow("6: row", x, 0, 4, 3, 1, 2);
        due("6: undo in the middle", x.undo(6, false), 1);
        dueRow("6: the later ones are done by their places", x, 0, 1, 2, 4, 3);
        due("6: undo", x.undo(7, false), 1);
        dueRow("6: row", x, 0, 3, 1, 2, 4);
        due("6: undo", x.undo(5, false), 1);
        dueRow("6: row", x, 0, 1, 2, 3, 4);
    }

    private static void placesInAReplay() {
        UndoMemory x = new UndoMemory();
        x.insert(0, 0, 1);
        x.insert(0, 1, 2);
        x.insert(0, 2, 3);
        x.insert(0, 3, 4);
        x.undo(3, false);
        dueRow("replay: without the nearest, behind the next", x, 0, 1, 2, 4);
        x.undo(2, false);
        dueRow("replay: the one after that", x, 0, 1, 4);
        x.undo(1, false);
        dueRow("replay: none of the place, first", x, 0, 4);
        x.redo(2);
        x.redo(1);
        dueRow("replay: redone", x, 0, 1, 2, 4);
        x.redo(3);
        dueRow("replay: redone", x, 0, 1, 2, 3, 4);

        UndoMemory y = new UndoMemory();
        y.insert(0, 0, 1);
        y.insert(0, 0, 2);
        y.insert(0, 1, 3);
        dueRow("replay: before", y, 0, 2, 3, 1);
        y.undo(2, false);
        dueRow("replay: what stood behind tells no place", y, 0, 3, 1);

        UndoMemory z = new UndoMemory();
        z.insert(0, 0, 1);
        z.insert(0, 1, 2);
        due("replay: remove", z.remove(0, 0), 3);
        z.insert(0, 1, 4);
        due("replay: move", z.move(0, 0, 1), 5);
        z.insert(0, 2, 6);
        dueRow("replay: row", z, 0, 4, 2, 6);
        due("replay: undo of the move", z.undo(5, false), 1);
        dueRow("replay: behind the nearest, where it stands now", z, 0, 2, 6, 4);
        due("replay: redo of the move", z.redo(5), 1);
        due("replay: undo of the remove", z.undo(3, false), 1);
        dueRow("replay: the element stands as if never gone", z, 0, 1, 4, 2, 6);

        UndoMemory m = new UndoMemory();
        m.insert(0, 0, 1);
        m.insert(0, 1, 2);
        due("replay: remove", m.remove(0, 0), 3);
        due("replay: undo", m.undo(3, false), 1);
        due("replay: move", m.move(0, 0, 1), 4);
        due("replay: redo of the remove", m.redo(3), 1);
        dueRow("replay: a move of what does not stand does nothing", m, 0, 2);
        due("replay: and is not undone", m.active(4), 1);
    }

    private static void nodes() {
        UndoMemory x = new UndoMemory();
        due("7: no node 1 yet, not its own", x.node(1), 0);
        due("7: under the root", x.node(0), 1);
        due("7: under a node", x.node(1), 2);
        due("7: no node -1", x.node(-1), 0);
        due("7: no such nodes", x.node(MIN) + x.node(MAX) + x.node(3), 0);
        due("7: an insert", x.insert(0, 0, 1), 3);
        due("7: an insert is no node", x.node(3), 0);
        due("7: a set is no node", x.set(0, 1) + x.node(4), 4);
        due("7: unlink", x.unlink(2), 5);
        due("7: an unlink is no node", x.node(5), 0);
        due("7: what is under nothing may have nodes", x.node(2), 6);
        due("7: parent", x.parent(6), 2);
        due("7: undo", x.undo(6, false), 1);
        due("7: an undone node", x.node(6), 0);
        due("7: the number goes on", x.node(0), 7);
    }

    private static void unlinks() {
        UndoMemory x = new UndoMemory();
        x.node(0);
        x.node(1);
        x.insert(0, 0, 1);
        due("8: not the root", x.unlink(0), 0);
        due("8: no node -1", x.unlink(-1), 0);
        due("8: an insert is no node", x.unlink(3), 0);
        due("8: no such nodes", x.unlink(4) + x.unlink(MIN) + x.unlink(MAX), 0);
        due("8: unlink", x.unlink(1), 4);
        due("8: under nothing", x.parent(1), NONE);
        due("8: what is below stays there", x.parent(2), 1);
        due("8: again", x.unlink(1), 5);
        due("8: undo of one", x.undo(4, false), 1);
        due("8: still under nothing", x.parent(1), NONE);
        due("8: undo of both", x.undo(5, false), 1);
        due("8: under the root", x.parent(1), 0);
        due("8: undo of the node", x.undo(2, false), 1);
        due("8: an undone node", x.unlink(2), 0);
    }

    private static void links() {
        UndoMemory x = new UndoMemory();
        x.node(0);
        x.node(1);
        x.node(2);
        x.node(0);
        x.insert(0, 0, 1);
        due("9: not under itself", x.link(1, 1), 0);
        due("9: not under its child", x.link(1, 2), 0);
        due("9: not under what is below", x.link(1, 3), 0);
        due("9: not the root", x.link(0, 1) + x.link(0, 0), 0);
        due("9: an insert is no node", x.link(5, 0) + x.link(1, 5), 0);
        due("9: no such nodes", x.link(6, 0) + x.link(1, 6) + x.link(-1, 0) + x.link(1, -1), 0);
        due("9: far", x.link(MIN, 0) + x.link(MAX, 0) + x.link(1, MIN) + x.link(1, MAX), 0);
        due("9: link", x.link(2, 4), 6);
        due("9: parent", x.parent(2), 4);
        due("9: its children come with it", x.parent(3), 2);
        due("9: now not below", x.link(1, 3), 7);
        due("9: parent", x.parent(1), 3);
        due("9: not in a ring of four", x.link(4, 1), 0);
        due("9: where it is already", x.link(1, 3), 8);
        due("9: unlink", x.unlink(2), 9);
        due("9: below what is under nothing", x.link(2, 1), 0);
        due("9: elsewhere", x.link(4, 1), 10);
        due("9: to the root", x.link(2, 0), 11);
        due("9: parent", x.parent(2), 0);
    }

    private static void fullHistory() {
        UndoMemory x = new UndoMemory();
        x.insert(0, 0, 1);
        x.insert(0, 1, 2);
        x.node(0);
        for (int i = 4; i <= 200; i++) {
            due("full: set no. " + i, x.set(0, i), i);
        }
        dueFull(x);
        due("full: undo", x.undo(100, false), 1);
        due("full: undoLast", x.undoLast(), 200);
        dueFull(x);
        due("full: cell", x.cell(0), 199);
        due("full: squash", x.squash(), 198);
        due("full: room again", x.remove(0, 0), 201);
        due("full: room again", x.link(3, 0), 202);
        dueFull(x);
        due("full: the last one", x.history(199, 0), 202);
        due("full: undo along in a full history", x.undo(3, true), 1);
        dueTaken("full", x, 202);
    }

    private static void dueFull(UndoMemory x) {
        due("2: full", x.set(0, 1), 0);
        due("3: full", x.add(0, 1), 0);
        due("4: full", x.insert(0, 0, 1), 0);
        due("5: full", x.remove(0, 0), 0);
        due("6: full", x.move(0, 0, 0), 0);
        due("7: full", x.node(0), 0);
        due("8: full", x.unlink(3), 0);
        due("9: full", x.link(3, 0), 0);
        due("full: count", x.count(0), 200);
    }

    /** Nodes 1 .. 199, each under the one before it, and 199 under 1 again. */
    private static UndoMemory deepTree() {
        UndoMemory x = new UndoMemory();
        for (int i = 0; i < 199; i++) {
            due("7: deep", x.node(i), i + 1);
        }
        due("9: not under the lowest", x.link(1, 199), 0);
        due("9: the lowest under the highest", x.link(199, 1), 200);
        return x;
    }

    private static void parentsInADeepTree() {
        UndoMemory x = deepTree();
        for (int i = 1; i < 199; i++) {
            due("25: deep", x.parent(i), i - 1);
        }
        due("25: parent", x.parent(199), 1);
        due("13: deep", x.dependsOn(200, 2), true);
        due("13: not on the number", x.dependsOn(1, 200), false);
    }

    private static void takenInADeepTree() {
        UndoMemory x = deepTree();
        due("10: the whole tree", x.undo(1, true), 1);
        for (int i = 0; i < 199; i++) {
            due("12: deep", x.taken(i), i + 2);
        }
        due("12: behind the last", x.taken(199), NONE);
        due("18: none is active", x.count(2), 0);
    }

    private static void redoNextInADeepTree() {
        UndoMemory x = deepTree();
        due("10: the whole tree", x.undo(1, true), 1);
        for (int i = 1; i <= 200; i++) {
            due("15: deep", x.redoNext(), i);
        }
        due("15: no more", x.redoNext(), 0);
        due("25: parent", x.parent(199), 1);
    }

    private static void undoes() {
        UndoMemory x = new UndoMemory();
        x.insert(0, 0, 1);
        x.insert(0, 1, 2);
        x.move(0, 0, 1);
        x.set(0, 5);
        x.remove(0, 1);
        due("10: no step 0", x.undo(0, true), 0);
        due("10: no step 6", x.undo(6, true), 0);
        due("10: no such steps", x.undo(-1, true) + x.undo(MIN, true) + x.undo(MAX, false), 0);
        due("10: alone, the least one", x.undo(1, false), -3);
        due("10: nothing happened", x.count(2), 5);
        dueRow("10: nothing happened", x, 0, 2);
        due("10: another one", x.undo(3, false), 1);
        due("10: undone already", x.undo(3, true), 0);
        due("10: the least active one", x.undo(1, false), -5);
        due("10: along", x.undo(1, true), 1);
        dueTaken("10: only what was active", x, 5);
        due("10: the others stay", x.count(2), 2);
        dueRow("10: row", x, 0, 2);
        due("10: a place does not name", x.redo(1) + x.redo(3) + x.undo(2, false), 3);
        dueRow("10: row", x, 0, 1);
        due("10: a set", x.undo(4, true), 1);
        dueTaken("10: along, but none", x);
        due("10: cell", x.cell(0), 0);
    }

    private static void undoAlongInATree() {
        UndoMemory x = new UndoMemory();
        x.node(0);
        x.node(1);
        x.node(2);
        x.node(0);
        x.link(3, 4);
        x.unlink(3);
        x.link(4, 2);
        x.set(0, 1);
        due("10: alone", x.undo(1, false), -2);
        due("10: along", x.undo(1, true), 1);
        dueTaken("10: all that hang on it, one after the other", x, 2, 3, 5, 6, 7);
        due("10: the rest", x.count(2), 2);
        due("10: parent", x.parent(4), 0);
        due("10: none", x.parent(2), NONE);

        UndoMemory y = new UndoMemory();
        y.node(0);
        y.node(1);
        y.unlink(2);
        y.link(1, 2);
        y.link(2, 0);
        y.node(0);
        y.link(1, 6);
        due("10: a ring", y.undo(3, false), -4);
        due("10: the ring is passed over", y.undo(3, true), 1);
        dueTaken("10: the ring", y, 4);
        due("10: parent", y.parent(2), 0);
        due("10: parent", y.parent(1), 6);
    }

    private static void redoes() {
        UndoMemory x = new UndoMemory();
        x.insert(0, 0, 1);
        x.move(0, 0, 0);
        x.remove(0, 0);
        due("11: active", x.redo(1), 0);
        due("11: no such steps", x.redo(0) + x.redo(4) + x.redo(-1) + x.redo(MIN) + x.redo(MAX), 0);
        x.undo(1, true);
        due("11: its element is not there", x.redo(3), -3);
        due("11: nothing happened", x.active(3), 0);
        due("11: nothing happened", x.count(2), 0);
        due("11: the insert", x.redo(1), 1);
        dueRow("11: only it", x, 0, 1);
        due("11: twice", x.redo(1), 0);
        due("11: out of order", x.redo(3), 1);
        dueRow("11: row", x, 0);
        due("11: before it", x.redo(2), 1);
        dueRow("11: row", x, 0);
        due("11: all", x.count(2), 3);

        UndoMemory y = new UndoMemory();
        y.set(3, 1);
        y.set(3, 2);
        y.undo(1, false);
        due("11: a set under another", y.redo(1), 1);
        due("11: in its own turn", y.cell(3), 2);
    }

    private static void redoThatHurtsLaterSteps() {
        UndoMemory x = new UndoMemory();
        x.node(0);
        x.node(0);
        due("11: link", x.link(1, 2), 3);
        due("11: undo", x.undo(3, false), 1);
        due("11: the other way", x.link(2, 1), 4);
        due("11: a later one would be impossible", x.redo(3), -4);
        due("11: nothing happened", x.active(3), 0);
        due("11: nothing happened", x.parent(1), 0);
        due("11: nothing happened", x.parent(2), 1);
        due("11: undo", x.undo(4, false), 1);
        due("11: it can be now", x.redo(3), 1);
        due("11: but then not the other", x.redo(4), -4);
        due("11: parent", x.parent(1), 2);
    }

    private static void taken() {
        UndoMemory x = new UndoMemory();
        x.node(0);
        x.node(1);
        x.node(1);
        x.set(0, 1);
        dueTaken("12: no undo yet", x);
        x.undo(1, true);
        dueTaken("12: undo", x, 2, 3);
        due("12: far", x.taken(MAX), NONE);
        due("12: far", x.taken(MIN), NONE);
        due("12: behind all", x.taken(200), NONE);
        due("12: undo of an undone step", x.undo(1, true), 0);
        dueTaken("12: an undo that answers 0", x, 2, 3);
        x.redo(1);
        x.redo(2);
        dueTaken("12: redo", x, 2, 3);
        due("12: alone", x.undo(1, false), -2);
        dueTaken("12: an undo that answers less", x, 2, 3);
        due("12: squash", x.squash(), 3);
        dueTaken("12: what left the history", x, 2, 3);
        due("12: undo alone", x.undo(4, false), 1);
        dueTaken("12: the latest undo took none", x);
        x.undo(1, true);
        dueTaken("12: undo", x, 2);
        due("12: undoLast of none", x.undoLast(), 0);
        dueTaken("12: an undoLast that answers 0", x, 2);
        due("12: redoNext", x.redoNext(), 1);
        dueTaken("12: redoNext", x, 2);
        due("12: undoLast", x.undoLast(), 1);
        dueTaken("12: undoLast takes none", x);
    }

    private static void dependsOn() {
        UndoMemory x = new UndoMemory();
        x.insert(0, 0, 1);
        x.insert(0, 1, 2);
        x.move(0, 1, 0);
        x.remove(0, 0);
        x.node(0);
        x.node(5);
        x.node(6);
        x.unlink(7);
        x.link(5, 7);
        due("13: a move on its insert", x.dependsOn(3, 2), true);
        due("13: a move on another insert", x.dependsOn(3, 1), false);
        due("13: a remove on its insert", x.dependsOn(4, 2), true);
        due("13: a remove on a move", x.dependsOn(4, 3), false);
        due("13: an insert on its place", x.dependsOn(2, 1), false);
        due("13: a node on its parent", x.dependsOn(6, 5), true);
        due("13: a node on what is above", x.dependsOn(7, 5), true);
        due("13: an unlink on its node", x.dependsOn(8, 7), true);
        due("13: a link on its node", x.dependsOn(9, 5), true);
        due("13: a link on its parent", x.dependsOn(9, 7), true);
        due("13: a link on what makes room for it", x.dependsOn(9, 8), true);
        due("13: through a node between", x.dependsOn(9, 6), true);
        due("13: on an insert", x.dependsOn(9, 1), false);
        due("13: nothing happened", x.count(2), 9);
        due("13: nothing happened", x.parent(5), 7);
        dueRow("13: nothing happened", x, 0, 1);
    }

    private static void dependsOnEdges() {
        UndoMemory x = new UndoMemory();
        x.set(0, 1);
        x.insert(0, 0, 1);
        x.move(0, 0, 0);
        due("13: not before it", x.dependsOn(2, 3), false);
        due("13: itself", x.dependsOn(3, 3), false);
        due("13: no such a", x.dependsOn(4, 2) || x.dependsOn(0, 2) || x.dependsOn(-1, 2), false);
        due("13: no such b", x.dependsOn(3, 0) || x.dependsOn(3, 9) || x.dependsOn(3, -1), false);
        due("13: far", x.dependsOn(MAX, MIN) || x.dependsOn(MIN, MAX), false);
        x.undo(3, false);
        due("13: a may be undone", x.dependsOn(3, 2), true);
        due("13: a may be undone", x.dependsOn(3, 1), false);
        x.undo(2, false);
        due("13: b is not active", x.dependsOn(3, 2), false);
        due("13: a is impossible with b, too", x.dependsOn(3, 1), true);
        due("13: a can't be impossible", x.dependsOn(2, 1), false);
        x.squash();
        due("13: a left the history", x.dependsOn(3, 1), false);

        UndoMemory y = new UndoMemory();
        y.node(0);
        y.node(0);
        y.link(1, 2);
        y.undo(3, false);
        y.link(2, 1);
        y.set(0, 0);
        y.undo(4, false);
        y.redo(3);
        due("13: impossible with b, possible without", y.dependsOn(4, 3), false);
        due("13: impossible with or without", y.dependsOn(4, 1), true);
        due("13: later steps do not count", y.dependsOn(3, 1), true);
    }

    private static void undoLast() {
        UndoMemory x = new UndoMemory();
        x.set(0, 1);
        x.insert(0, 0, 1);
        x.remove(0, 0);
        x.set(0, 2);
        due("14: undo", x.undo(3, false), 1);
        due("14: the latest", x.undoLast(), 4);
        due("14: cell", x.cell(0), 1);
        due("14: past what is undone", x.undoLast(), 2);
        dueRow("14: row", x, 0);
        due("14: the first", x.undoLast(), 1);
        due("14: cell", x.cell(0), 0);
        due("14: none", x.undoLast(), 0);
        due("14: none active", x.count(2), 0);
        due("14: all in the history", x.count(0), 4);
    }

    private static void redoNext() {
        UndoMemory x = new UndoMemory();
        x.set(0, 1);
        x.insert(0, 0, 1);
        x.remove(0, 0);
        due("15: none is undone", x.redoNext(), 0);
        x.undo(1, false);
        due("15: none is undone behind the latest", x.redoNext(), 0);
        due("15: it stays undone", x.active(1), 0);
        x.undoLast();
        x.undoLast();
        due("15: none active, the first of all", x.redoNext(), 1);
        due("15: cell", x.cell(0), 1);
        due("15: next", x.redoNext(), 2);
        dueRow("15: row", x, 0, 2);
        due("15: next", x.redoNext(), 3);
        dueRow("15: row", x, 0);
        due("15: no more", x.redoNext(), 0);

        UndoMemory y = new UndoMemory();
        y.insert(0, 0, 1);
        y.set(0, 1);
        y.remove(0, 0);
        y.set(0, 2);
        y.undoLast();
        y.undo(1, true);
        due("15: the next one can't be", y.redoNext(), 0);
        due("15: nothing happened", y.active(3), 0);
        due("15: the one behind it neither", y.active(4), 0);
        due("15: again", y.redoNext(), 0);
        due("15: redo", y.redo(1), 1);
        due("15: now it can", y.redoNext(), 3);
        due("15: next", y.redoNext(), 4);

        UndoMemory z = new UndoMemory();
        z.set(0, 1);
        z.undoLast();
        z.set(0, 2);
        due("15: a new step is the latest active one", z.redoNext(), 0);
        due("15: cell", z.cell(0), 2);
    }

    private static void squash() {
        UndoMemory x = new UndoMemory();
        x.insert(0, 0, 10);
        x.insert(0, 1, 20);
        x.insert(0, 2, 30);
        x.set(0, 1);
        due("16: none is undone", x.squash(), 4);
        x.undo(2, false);
        x.undo(4, false);
        due("16: squash", x.squash(), 2);
        due("16: again", x.squash(), 2);
        due("16: count", x.count(0), 2);
        due("16: latest number", x.count(1), 4);
        due("16: gone for good", x.redo(2) + x.redo(4) + x.undo(2, true), 0);
        due("16: not in the history", x.active(2), NONE);
        due("16: no value", x.value(2), 0);
        due("16: history", x.history(1, 0), 3);
        due("16: no more", x.history(2, 0), NONE);
        dueRow("16: row", x, 0, 1, 3);
        due("16: numbers go on", x.insert(0, 1, 40), 5);
        dueRow("16: row", x, 0, 1, 5, 3);
        due("16: undo", x.undo(1, false), 1);
        dueRow("16: what left tells no place", x, 0, 5, 3);
        x.undoLast();
        x.undoLast();
        due("16: all leave", x.squash(), 0);
        due("16: none", x.redoNext(), 0);
        due("16: numbers go on", x.set(0, 1), 6);
    }

    private static void active() {
        UndoMemory x = new UndoMemory();
        x.set(0, 1);
        x.set(0, 2);
        x.undo(1, false);
        due("17: undone", x.active(1), 0);
        due("17: active", x.active(2), 1);
        due("17: no step 0", x.active(0), NONE);
        due("17: no step 3", x.active(3), NONE);
        due("17: no step -1", x.active(-1), NONE);
        due("17: far", x.active(MIN), NONE);
        due("17: far", x.active(MAX), NONE);
        x.squash();
        due("17: left the history", x.active(1), NONE);
        due("17: is in it", x.active(2), 1);
    }

    private static void count() {
        UndoMemory x = withSets(5);
        x.undo(2, false);
        x.undo(5, false);
        due("18: steps", x.count(0), 5);
        due("18: latest number", x.count(1), 5);
        due("18: active", x.count(2), 3);
        x.squash();
        due("18: steps", x.count(0), 3);
        due("18: latest number", x.count(1), 5);
        due("18: active", x.count(2), 3);
        due("18: no what 3", x.count(3), NONE);
        due("18: no what -1", x.count(-1), NONE);
        due("18: far", x.count(MAX), NONE);
        due("18: far", x.count(MIN), NONE);
    }

    private static void history() {
        UndoMemory x = new UndoMemory();
        x.set(7, 1);
        x.add(3, 1);
        x.insert(2, 0, 9);
        x.move(2, 0, 0);
        x.remove(2, 0);
        x.node(0);
        x.node(6);
        x.unlink(7);
        x.link(7, 6);
        int[] kinds = {1, 2, 3, 5, 4, 6, 6, 7, 8};
        int[] targets = {7, 3, 2, 2, 2, 0, 0, 7, 7};
        for (int i = 0; i < kinds.length; i++) {
            due("19: number of " + i, x.history(i, 0), i + 1);
            due("19: kind of " + i, x.history(i, 1), kinds[i]);
            due("19: what is named by " + i, x.history(i, 2), targets[i]);
            due("19: no what 3", x.history(i, 3), NONE);
            due("19: no what -1", x.history(i, -1), NONE);
        }
        due("19: behind the last", x.history(9, 0), NONE);
        due("19: before the first", x.history(-1, 0), NONE);
        due("19: far", x.history(MAX, 1), NONE);
        due("19: far", x.history(MIN, 2), NONE);
        due("19: undo", x.undo(2, false), 1);
        due("19: undone ones are in it", x.history(1, 1), 2);
        x.squash();
        due("19: without those that left", x.history(1, 0), 3);
        due("19: no more", x.history(8, 0), NONE);
    }

    private static void reads() {
        UndoMemory x = new UndoMemory();
        for (int c = 0; c < 8; c++) {
            x.set(c, 10 + c);
        }
        for (int k = 0; k < 4; k++) {
            x.add(k, 20 + k);
        }
        for (int row = 0; row < 3; row++) {
            x.insert(row, 0, 30 + row);
        }
        for (int c = 0; c < 8; c++) {
            due("20: cell " + c, x.cell(c), 10 + c);
        }
        due("20: none such", x.cell(8) + x.cell(-1) + x.cell(MAX) + x.cell(MIN), 0);
        for (int k = 0; k < 4; k++) {
            due("21: counter " + k, x.counter(k), 20 + k);
        }
        due("21: none such", x.counter(4) + x.counter(-1) + x.counter(MAX) + x.counter(MIN), 0);
        for (int row = 0; row < 3; row++) {
            due("22: length of " + row, x.length(row), 1);
            due("23: element of " + row, x.element(row, 0), 13 + row);
        }
        for (int row : new int[] {3, -1, MAX, MIN}) {
            due("22: none such", x.length(row), NONE);
            due("23: no such row", x.element(row, 0), 0);
        }
        due("23: none such", x.element(0, 1) + x.element(0, -1) + x.element(0, MAX) + x.element(0, MIN), 0);
        x.remove(0, 0);
        due("22: no more", x.length(0), 0);
        due("23: no more", x.element(0, 0), 0);
    }

    private static void values() {
        UndoMemory x = new UndoMemory();
        x.insert(0, 0, MIN);
        x.insert(1, 0, MAX);
        x.set(0, 5);
        x.add(0, 6);
        x.remove(1, 0);
        due("24: value", x.value(1), MIN);
        due("24: of what was removed", x.value(2), MAX);
        due("24: a set is no insert", x.value(3), 0);
        due("24: an add is no insert", x.value(4), 0);
        due("24: a remove is no insert", x.value(5), 0);
        due("24: none such", x.value(0) + x.value(6) + x.value(-1) + x.value(MIN) + x.value(MAX), 0);
        x.undo(1, false);
        due("24: of an undone one", x.value(1), MIN);
        x.squash();
        due("24: left the history", x.value(1), 0);
    }

    private static void parents() {
        UndoMemory x = new UndoMemory();
        x.node(0);
        x.node(1);
        x.insert(0, 0, 1);
        due("25: under the root", x.parent(1), 0);
        due("25: under a node", x.parent(2), 1);
        for (int node : new int[] {0, -1, 3, 4, MAX, MIN}) {
            due("25: no node " + node, x.parent(node), NONE);
        }
        x.unlink(2);
        due("25: under nothing", x.parent(2), NONE);
        x.undoLast();
        due("25: again", x.parent(2), 1);
        x.undo(2, false);
        due("25: an undone node", x.parent(2), NONE);
    }

    private static void objectsAreApart() {
        UndoMemory x = new UndoMemory();
        UndoMemory y = new UndoMemory();
        x.set(0, 1);
        x.insert(0, 0, 1);
        due("1: another object has its own steps", y.count(0), 0);
        due("1: and its own cells", y.cell(0), 0);
        due("1: and its own numbers", y.set(0, 2), 1);
        due("1: the first one is as it was", x.cell(0), 1);
    }
}
