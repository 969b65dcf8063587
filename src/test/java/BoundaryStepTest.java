/** The boundary cases of promises 2 to 9: new steps. */
public final class BoundaryStepTest extends Boundary {
    public static void main(String[] args) {
        setNoSuchCell();
        addNoSuchCounter();
        insertNoSuchRow();
        insertNoSuchIndex();
        insertForty();
        insertUndoneOnesCount();
        removeNone();
        moveNone();
        moveNoSuchIndex();
        moveToTheSameIndex();
        nodeNoSuchParent();
        nodeUnderTheRoot();
        unlinkNoSuchNode();
        linkNoSuchNode();
        linkUnderTheRoot();
        linkToItselfOrBelow();
        refusedWhenFull();
        acceptedBelowFull();
        end();
    }

    private static void setNoSuchCell() {
        sentence("Promise 2: 0, and nothing happens, if there is no such cell");
        for (int cell : new int[] {-1, 8, 9, MIN, MAX}) {
            dueNothing("set of cell " + cell, Boundary::empty, x -> x.set(cell, 7), 0);
            dueNothing("set of cell " + cell, Boundary::some, x -> x.set(cell, 7), 0);
        }
    }

    private static void addNoSuchCounter() {
        sentence("Promise 3: 0 if there is no such counter");
        for (int counter : new int[] {-1, 4, 5, MIN, MAX}) {
            dueNothing("add to counter " + counter, Boundary::empty, x -> x.add(counter, 7), 0);
            dueNothing("add to counter " + counter, Boundary::some, x -> x.add(counter, 7), 0);
        }
    }

    private static void insertNoSuchRow() {
        sentence("Promise 4: 0 if there is no such row");
        for (int row : new int[] {-1, 3, 4, MIN, MAX}) {
            dueNothing("insert in row " + row, Boundary::empty, x -> x.insert(row, 0, 7), 0);
            dueNothing("insert in row " + row, Boundary::some, x -> x.insert(row, 0, 7), 0);
        }
    }

    private static void insertNoSuchIndex() {
        sentence("Promise 4: 0 if there is no such .. index (0 .. as many as stand)");
        for (int at : new int[] {-1, 1, 2, MIN, MAX}) {
            dueNothing("insert in an empty row at " + at, Boundary::some, x -> x.insert(1, at, 7), 0);
        }
        for (int at : new int[] {-1, 3, 4, MIN, MAX}) {
            dueNothing("insert behind two at " + at, Boundary::some, x -> x.insert(0, at, 7), 0);
        }
        Counted x = made(Boundary::some);
        due("as the first", x.insert(0, 0, 7), 16);
        due("as the last", x.insert(0, 3, 7), 17);
        due("before the last", x.insert(0, 3, 7), 18);
        dueRow("row", x, 0, 16, 3, 12, 18, 17);
        due("in an empty row", x.insert(1, 0, 7), 19);
        dueRow("row", x, 1, 19);
    }

    private static void insertForty() {
        sentence("Promise 4: 0 if .. the history has 40 INSERTs of this row");
        for (int row = 0; row < 3; row++) {
            int full = row;
            int other = (row + 1) % 3;
            for (int at : new int[] {0, 1, 39, 40}) {
                dueNothing("a 41st at " + at, x -> row(x, full, 40), x -> x.insert(full, at, 7), 0);
            }
            Counted x = new Counted();
            row(x, row, 39);
            due("a 40th as the first", x.insert(row, 0, 7), 40);
            due("a 41st", x.insert(row, 0, 7), 0);
            due("one of another row", x.insert(other, 0, 7), 41);
            due("length", x.length(row), 40);
        }
        Counted y = new Counted();
        row(y, 1, 39);
        due("a move is no INSERT", y.move(1, 0, 38), 40);
        due("a remove is no INSERT", y.remove(1, 0), 41);
        due("nor is a set", y.set(1, 1), 42);
        due("a 40th", y.insert(1, 38, 7), 43);
        due("a 41st", y.insert(1, 38, 7), 0);
        for (int i = 0; i < 80; i++) {
            due("40 of each other row", y.insert(2 * (i % 2), i / 2, 7), 44 + i);
        }
        due("no more", y.insert(0, 0, 7) + y.insert(1, 0, 7) + y.insert(2, 0, 7), 0);
        due("lengths", y.length(0) + y.length(1) + y.length(2), 40 + 39 + 40);
    }

    private static void insertUndoneOnesCount() {
        sentence("Promise 4: (Undone ones count, as long as they are in the history.)");
        Way undone = x -> {
            row(x, 0, 40);
            due("remove", x.remove(0, 39), 41);
            due("undo of the first", x.undo(1, false), 1);
            due("undo of the last", x.undo(40, true), 1);
        };
        dueNothing("insert with undone ones", undone, x -> x.insert(0, 0, 7), 0);
        Counted x = made(undone);
        due("squash", x.squash(), 38);
        due("they left: insert", x.insert(0, 38, 7), 42);
        due("insert", x.insert(0, 0, 7), 43);
        due("no more", x.insert(0, 0, 7), 0);
        due("length", x.length(0), 40);
        due("the first", x.element(0, 0), 43);
        due("the last", x.element(0, 39), 42);

        Counted y = new Counted();
        row(y, 0, 40);
        due("remove", y.remove(0, 0), 41);
        due("squash", y.squash(), 41);
        due("a removed one is in the history", y.insert(0, 0, 7), 0);
    }

    private static void removeNone() {
        sentence("Promise 5: 0 if there is none");
        for (int at : new int[] {-1, 0, 1, MIN, MAX}) {
            dueNothing("remove of an empty row at " + at, Boundary::some, x -> x.remove(1, at), 0);
        }
        for (int at : new int[] {-1, 2, 3, MIN, MAX}) {
            dueNothing("remove of two at " + at, Boundary::some, x -> x.remove(0, at), 0);
        }
        for (int row : new int[] {-1, 3, MIN, MAX}) {
            dueNothing("remove of row " + row, Boundary::some, x -> x.remove(row, 0), 0);
        }
        dueNothing("remove of a new object", Boundary::empty, x -> x.remove(0, 0), 0);
        Counted x = made(Boundary::some);
        due("the last", x.remove(0, 1), 16);
        due("the first", x.remove(0, 0), 17);
        due("none is left", x.remove(0, 0), 0);
    }

    private static void moveNone() {
        sentence("Promise 6: 0 if there is none such");
        for (int from : new int[] {-1, 0, 1, MIN, MAX}) {
            dueNothing("move in an empty row from " + from, Boundary::some, x -> x.move(1, from, 0), 0);
        }
        for (int from : new int[] {-1, 2, 3, MIN, MAX}) {
            dueNothing("move of two from " + from, Boundary::some, x -> x.move(0, from, 0), 0);
        }
        for (int row : new int[] {-1, 3, MIN, MAX}) {
            dueNothing("move in row " + row, Boundary::some, x -> x.move(row, 0, 0), 0);
        }
        dueNothing("move in a new object", Boundary::empty, x -> x.move(0, 0, 0), 0);
    }

    private static void moveNoSuchIndex() {
        sentence("Promise 6: 0 if there is .. no such index");
        for (int to : new int[] {-1, 2, 3, MIN, MAX}) {
            dueNothing("move of two to " + to, Boundary::some, x -> x.move(0, 0, to), 0);
        }
        dueNothing("move of one to 1", Boundary::some, x -> x.move(2, 0, 1), 0);
        Counted x = made(Boundary::some);
        due("to the last", x.move(0, 0, 1), 16);
        dueRow("row", x, 0, 12, 3);
        due("to the first", x.move(0, 1, 0), 17);
        dueRow("row", x, 0, 3, 12);
    }

    private static void moveToTheSameIndex() {
        sentence("Promise 6: so that it has another one then (or the same): the step's number");
        Counted x = made(Boundary::some);
        due("the first", x.move(0, 0, 0), 16);
        due("the last", x.move(0, 1, 1), 17);
        due("the only one", x.move(2, 0, 0), 18);
        dueRow("row", x, 0, 3, 12);
        dueRow("row", x, 2, 5);
        due("they are steps", x.history(17, 1), 5);
    }

    private static void nodeNoSuchParent() {
        sentence("Promise 7: 0 if there is no node of the memory with that number");
        dueNothing("node under its own number", Boundary::empty, x -> x.node(1), 0);
        for (int parent : NO_NODES_OF_SOME) {
            dueNothing("node under " + parent, Boundary::some, x -> x.node(parent), 0);
        }
        for (int parent : OTHERS_OF_MOVED) {
            dueNothing("node under " + parent, Boundary::moved, x -> x.node(parent), 0);
        }
        dueNothing("node under one that left", Boundary::squashed, x -> x.node(9), 0);
    }

    private static void nodeUnderTheRoot() {
        sentence("Promise 7: (0 is the root)");
        Counted x = new Counted();
        due("node", x.node(0), 1);
        due("parent", x.parent(1), 0);
        due("undo", x.undo(1, false), 1);
        due("with no node in the memory", x.node(0), 2);
        due("parent", x.parent(2), 0);
    }

    private static void unlinkNoSuchNode() {
        sentence("Promise 8: 0 if there is no such node in the memory");
        dueNothing("unlink of its own number", Boundary::empty, x -> x.unlink(1), 0);
        dueNothing("unlink of the root", Boundary::empty, x -> x.unlink(0), 0);
        dueNothing("unlink of the root", Boundary::some, x -> x.unlink(0), 0);
        for (int node : NO_NODES_OF_SOME) {
            dueNothing("unlink of " + node, Boundary::some, x -> x.unlink(node), 0);
        }
        for (int node : OTHERS_OF_MOVED) {
            dueNothing("unlink of " + node, Boundary::moved, x -> x.unlink(node), 0);
        }
        dueNothing("unlink of one that left", Boundary::squashed, x -> x.unlink(9), 0);
    }

    private static void linkNoSuchNode() {
        sentence("Promise 9: 0 if one of both is no node of the memory");
        for (int node : NO_NODES_OF_SOME) {
            dueNothing("link of " + node, Boundary::some, x -> x.link(node, 6), 0);
            dueNothing("link to the root of " + node, Boundary::some, x -> x.link(node, 0), 0);
            dueNothing("link under " + node, Boundary::some, x -> x.link(8, node), 0);
        }
        for (int node : OTHERS_OF_MOVED) {
            dueNothing("link of " + node, Boundary::moved, x -> x.link(node, 0), 0);
            dueNothing("link under " + node, Boundary::moved, x -> x.link(8, node), 0);
        }
        dueNothing("link of two that are not", Boundary::some, x -> x.link(9, 13), 0);
        dueNothing("link of the root", Boundary::some, x -> x.link(0, 6), 0);
        dueNothing("link of the root", Boundary::some, x -> x.link(0, 0), 0);
        dueNothing("link in a new object", Boundary::empty, x -> x.link(1, 0), 0);
        dueNothing("link of one that left", Boundary::squashed, x -> x.link(9, 0), 0);
        dueNothing("link under one that left", Boundary::squashed, x -> x.link(8, 9), 0);
    }

    private static void linkUnderTheRoot() {
        sentence("Promise 9: (the second may be 0)");
        Counted x = made(Boundary::some);
        due("what is under nothing", x.link(7, 0), 16);
        due("what is under the root", x.link(6, 0), 17);
        due("what is under a node", x.link(8, 0), 18);
        due("parents", x.parent(7) + x.parent(6) + x.parent(8), 0);
    }

    private static void linkToItselfOrBelow() {
        sentence("Promise 9: 0 if .. that is the first one or below it");
        dueNothing("link to itself", Boundary::some, x -> x.link(6, 6), 0);
        dueNothing("link of what is under nothing to itself", Boundary::some, x -> x.link(7, 7), 0);
        dueNothing("link to what is below, under nothing", Boundary::some, x -> x.link(7, 8), 0);
        Way deep = x -> chain(x, 1, 60);
        dueNothing("link to the one just below", deep, x -> x.link(1, 2), 0);
        dueNothing("link to the lowest", deep, x -> x.link(1, 60), 0);
        dueNothing("link from the middle to the lowest", deep, x -> x.link(30, 60), 0);
        Counted x = made(deep);
        due("link to the one above", x.link(60, 59), 61);
        due("link to one beside", x.link(30, 28), 62);
        due("what hung below stays below", x.link(30, 60), 0);
        due("one that is below no more", x.link(29, 60), 63);
        due("parent", x.parent(29), 60);
    }

    private static final Call[] EACH_KIND = {
        x -> x.set(0, 7), x -> x.add(0, 7), x -> x.insert(1, 0, 7), x -> x.remove(0, 0),
        x -> x.move(0, 0, 1), x -> x.node(0), x -> x.unlink(6), x -> x.link(8, 6)
    };

    private static void refusedWhenFull() {
        String[] kinds = {"set", "add", "insert", "remove", "move", "node", "unlink", "link"};
        for (int i = 0; i < EACH_KIND.length; i++) {
            sentence("Promise " + (i + 2) + ": 0 if .. the history is full");
            dueNothing(kinds[i], Boundary::full, EACH_KIND[i], 0);
            Way undone = x -> {
                full(x);
                due("undo", x.undo(200, false), 1);
            };
            dueNothing(kinds[i] + " with an undone step", undone, EACH_KIND[i], 0);
        }
    }

    private static void acceptedBelowFull() {
        for (int i = 0; i < EACH_KIND.length; i++) {
            sentence("Promise " + (i + 2) + ": the step's number, the 200th of the history");
            Counted x = made(Boundary::oneBelowFull);
            due("the 200th", EACH_KIND[i].on(x), 200);
            due("its kind", x.history(199, 1), i + 1);
            due("steps", x.count(0), 200);
            due("active", x.active(200), 1);
            due("undo", x.undo(200, false), 1);
            due("redo", x.redo(200), 1);
            due("squash", x.squash(), 197);
            due("room again", EACH_KIND[0].on(x), 201);
        }
    }
}
