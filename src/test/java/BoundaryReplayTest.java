/** The boundary cases of places, replays and impossible steps. */
public final class BoundaryReplayTest extends Boundary {
    public static void main(String[] args) {
        placeFromNearestToFirst();
        placeWithoutTheMovedOne();
        replayBeginsWithNothing();
        insertBehindTheFirstThatStands();
        insertFirstIfNoneStands();
        removeIfItStands();
        moveIfItStands();
        nodeLinkAndUnlinkInAReplay();
        impossibleWithoutWhatIsNamed();
        impossibleWithoutP();
        neverImpossibleForItsPlace();
        neverImpossibleOnceInserted();
        linkBelowItself();
        nodesUnderWhatIsUnderNothing();
        noneIsImpossibleInTheMemory();
        newStepIsActive();
        end();
    }

    private static void placeFromNearestToFirst() {
        sentence("A PLACE is told by the elements that stood before it .. from the nearest to the first one.");
        Counted x = new Counted();
        row(x, 1, 40);
        due("undo of one far before", x.undo(20, false), 1);
        due("the last stays behind the nearest", x.element(1, 38), 40);
        due("the nearest", x.element(1, 37), 39);
        for (int step = 2; step < 40; step++) {
            due("undo", x.undo(step, false), step == 20 ? 0 : 1);
        }
        dueRow("behind the first one, 38 before it are gone", x, 1, 1, 40);
        due("redo", x.redo(7), 1);
        due("redo", x.redo(30), 1);
        dueRow("behind the nearest of those that stand", x, 1, 1, 7, 30, 40);

        Counted y = new Counted();
        row(y, 0, 3);
        due("insert as first, with none before", y.insert(0, 0, 1), 4);
        due("insert behind it", y.insert(0, 1, 1), 5);
        dueRow("row", y, 0, 4, 5, 1, 2, 3);
        due("undo", y.undo(4, false), 1);
        dueRow("those that stood behind do not tell", y, 0, 5, 1, 2, 3);
    }

    private static void placeWithoutTheMovedOne() {
        sentence("A PLACE is told .. when the step was made (without the one that is moved)");
        Counted x = new Counted();
        row(x, 0, 3);
        due("move", x.move(0, 0, 1), 4);
        dueRow("up by one", x, 0, 2, 1, 3);
        due("move", x.move(0, 2, 2), 5);
        dueRow("the last to the last", x, 0, 2, 1, 3);
        due("move", x.move(0, 0, 2), 6);
        dueRow("the first to the last", x, 0, 1, 3, 2);
        due("move", x.move(0, 2, 0), 7);
        dueRow("the last to the first", x, 0, 2, 1, 3);

        Counted y = new Counted();
        row(y, 2, 40);
        due("move in a row of 40", y.move(2, 0, 39), 41);
        due("the first is the last", y.element(2, 39), 1);
        due("the second is the first", y.element(2, 0), 2);
        due("length", y.length(2), 40);
        due("move back", y.move(2, 39, 0), 42);
        due("it is the first", y.element(2, 0), 1);
        due("it is the last", y.element(2, 39), 40);
    }

    private static void replayBeginsWithNothing() {
        sentence("A REPLAY begins with cells and counters 0, rows without elements, no nodes");
        Counted x = made(Boundary::some);
        for (int i = 0; i < 12; i++) {
            due("undoLast finds one", x.undoLast() > 0 ? 1 : 0, 1);
        }
        due("active", x.count(2), 0);
        dueMemoryIsEmpty(x);
        due("redo", x.redo(2), 1);
        due("counter", x.counter(1), 9);
        due("cell", x.cell(0), 0);
    }

    private static void insertBehindTheFirstThatStands() {
        sentence("INSERT: the element is put just behind the first one that its place tells and that stands in the row then");
        Counted x = new Counted();
        row(x, 0, 2);
        due("insert between", x.insert(0, 1, 1), 3);
        dueRow("just behind, not last", x, 0, 1, 3, 2);
        due("insert", x.insert(0, 3, 1), 4);
        due("remove", x.remove(0, 2), 5);
        due("undo of the nearest", x.undo(2, true), 1);
        dueRow("behind the next one", x, 0, 1, 3, 4);
        due("undo of that", x.undo(3, false), 1);
        dueRow("behind the first one", x, 0, 1, 4);

        Counted y = new Counted();
        row(y, 0, 3);
        due("remove", y.remove(0, 1), 4);
        due("undo", y.undo(4, false), 1);
        due("insert behind it", y.insert(0, 2, 1), 5);
        due("redo of the remove", y.redo(4), 1);
        dueRow("one that was inserted but does not stand is passed by", y, 0, 1, 5, 3);
    }

    private static void insertFirstIfNoneStands() {
        sentence("INSERT: .. if none does, first.");
        Counted x = new Counted();
        due("insert", x.insert(0, 0, 1), 1);
        due("insert before it", x.insert(0, 0, 1), 2);
        due("insert between", x.insert(0, 1, 1), 3);
        dueRow("row", x, 0, 2, 3, 1);
        due("undo of the one before it", x.undo(2, false), 1);
        dueRow("first, not last", x, 0, 3, 1);
        due("undo of the other", x.undo(1, false), 1);
        dueRow("in an empty row", x, 0, 3);
    }

    private static void removeIfItStands() {
        sentence("REMOVE: the element goes, if it stands.");
        Counted x = new Counted();
        row(x, 0, 2);
        due("remove", x.remove(0, 0), 3);
        due("undo", x.undo(3, false), 1);
        due("remove", x.remove(0, 0), 4);
        due("redo of the first remove", x.redo(3), 1);
        dueRow("it goes once", x, 0, 2);
        due("both are active", x.count(2), 4);
        due("undo", x.undo(3, false), 1);
        dueRow("the other takes it", x, 0, 2);
        due("undo", x.undo(4, false), 1);
        dueRow("it stands", x, 0, 1, 2);
        due("remove", x.remove(0, 1), 5);
        due("remove", x.remove(0, 0), 6);
        dueRow("none stands", x, 0);
    }

    private static void moveIfItStands() {
        sentence("MOVE: if the element stands it goes, and is put anew by its place.");
        Counted x = new Counted();
        row(x, 0, 2);
        due("remove", x.remove(0, 0), 3);
        due("undo", x.undo(3, false), 1);
        due("move", x.move(0, 0, 1), 4);
        due("redo of the remove", x.redo(3), 1);
        dueRow("it does not stand, and is not put", x, 0, 2);
        due("the move is active", x.active(4), 1);
        due("undo of the remove", x.undo(3, false), 1);
        dueRow("it stands", x, 0, 2, 1);

        Counted y = new Counted();
        row(y, 0, 3);
        due("move", y.move(0, 0, 2), 4);
        due("undo of one of its place", y.undo(3, false), 1);
        dueRow("behind the other", y, 0, 2, 1);
        due("undo of the other", y.undo(2, false), 1);
        dueRow("alone", y, 0, 1);
        due("redo", y.redo(3), 1);
        dueRow("behind the nearest", y, 0, 3, 1);
    }

    private static void nodeLinkAndUnlinkInAReplay() {
        sentence("NODE: it is there, under p. UNLINK: it is under nothing. LINK: it is under p.");
        Counted x = new Counted();
        chain(x, 1, 3);
        due("unlink", x.unlink(3), 4);
        due("under nothing", x.parent(3), NONE);
        due("unlink of what is under nothing", x.unlink(3), 5);
        due("link", x.link(3, 1), 6);
        due("under 1", x.parent(3), 1);
        due("link to where it is", x.link(3, 1), 7);
        due("link to the root", x.link(3, 0), 8);
        due("under the root", x.parent(3), 0);
        due("undo", x.undo(8, false) + x.undo(7, false) + x.undo(6, false), 3);
        due("under nothing", x.parent(3), NONE);
        due("undo of one", x.undo(5, false), 1);
        due("under nothing", x.parent(3), NONE);
        due("undo of both", x.undo(4, false), 1);
        due("under 2", x.parent(3), 2);
    }

    private static void impossibleWithoutWhatIsNamed() {
        sentence("A step is IMPOSSIBLE if it names an element or a node whose INSERT or NODE was not done in this replay");
        Counted x = new Counted();
        due("insert", x.insert(0, 0, 1), 1);
        due("insert", x.insert(0, 0, 1), 2);
        due("remove", x.remove(0, 0), 3);
        due("undo of what is removed", x.undo(2, false), -3);
        due("move", x.move(0, 0, 0), 4);
        due("undo of what is moved", x.undo(1, false), -4);
        due("node", x.node(0), 5);
        due("unlink", x.unlink(5), 6);
        due("undo of what is unlinked", x.undo(5, false), -6);
        due("node", x.node(0), 7);
        due("link", x.link(7, 0), 8);
        due("undo of what is linked", x.undo(7, false), -8);
        due("a set names none", x.set(0, 1), 9);
        due("an add names none", x.add(0, 1), 10);
        due("undo", x.undo(9, false) + x.undo(10, false), 2);
    }

    private static void impossibleWithoutP() {
        sentence("IMPOSSIBLE .. (p, too, but 0)");
        Counted x = new Counted();
        chain(x, 1, 2);
        due("undo of p of a node", x.undo(1, false), -2);
        due("node", x.node(0), 3);
        due("link", x.link(2, 3), 4);
        due("undo of p of a link", x.undo(3, false), -4);
        due("link", x.link(2, 0), 5);
        due("undo", x.undo(4, false), 1);
        due("undo: 0 is always there", x.undo(3, false), 1);
        due("still active", x.active(5), 1);
        due("undo of all", x.undo(1, true), 1);
        dueTaken("all that name it", x, 2, 5);
        due("a node under 0", x.node(0), 6);
        due("a link under 0", x.link(6, 0), 7);
    }

    private static void neverImpossibleForItsPlace() {
        sentence("IMPOSSIBLE .. (.. not those that a place tells)");
        Counted x = new Counted();
        row(x, 0, 3);
        due("move", x.move(0, 0, 2), 4);
        due("undo of one that a place tells", x.undo(2, false), 1);
        due("undo of one that two places tell", x.undo(3, false), 1);
        due("active", x.count(2), 2);
        due("squash", x.squash(), 2);
        dueRow("and those may leave the history", x, 0, 1);
        due("dependsOn", x.dependsOn(4, 1), 1);
    }

    private static void neverImpossibleOnceInserted() {
        sentence("IMPOSSIBLE .. whose INSERT was not done: one that was removed since was done");
        Counted x = new Counted();
        row(x, 0, 1);
        due("remove", x.remove(0, 0), 2);
        due("undo", x.undo(2, false), 1);
        due("remove", x.remove(0, 0), 3);
        due("undo", x.undo(3, false), 1);
        due("move", x.move(0, 0, 0), 4);
        due("redo", x.redo(2), 1);
        due("redo", x.redo(3), 1);
        due("all are active", x.count(2), 4);
        due("dependsOn the remove", x.dependsOn(4, 2) + x.dependsOn(3, 2), 0);
        due("undo", x.undo(1, false), -2);
    }

    private static void linkBelowItself() {
        sentence("A step is IMPOSSIBLE .. also LINK, if p is n or below it.");
        Counted x = new Counted();
        chain(x, 1, 199);
        due("under itself", x.link(1, 1) + x.link(199, 199), 0);
        due("under the one just below", x.link(1, 2), 0);
        due("under the lowest", x.link(1, 199), 0);
        due("the lowest under the highest", x.link(199, 1), 200);

        Counted y = new Counted();
        chain(y, 1, 3);
        due("link", y.link(2, 0), 4);
        due("link", y.link(1, 3), 5);
        due("undo of what made room", y.undo(4, false), -5);
        due("along", y.undo(4, true), 1);
        due("redo", y.redo(5), -5);
        due("redo", y.redo(4), 1);
        due("redo", y.redo(5), 1);
        due("parent", y.parent(1), 3);
    }

    private static void nodesUnderWhatIsUnderNothing() {
        sentence("(What is under nothing may have nodes under it.)");
        Counted x = new Counted();
        chain(x, 1, 2);
        due("unlink", x.unlink(1), 3);
        due("it keeps its own", x.parent(2), 1);
        due("a new node", x.node(1), 4);
        due("parent", x.parent(4), 1);
        due("a node", x.node(0), 5);
        due("linked there", x.link(5, 2), 6);
        due("parent", x.parent(5), 2);
        due("it is still below", x.link(1, 5), 0);
    }

    private static void noneIsImpossibleInTheMemory() {
        sentence("THE MEMORY is the replay of all active steps; none of these is ever impossible in it.");
        Counted x = new Counted();
        chain(x, 1, 3);
        due("insert", x.insert(0, 0, 1), 4);
        due("move", x.move(0, 0, 0), 5);
        due("undo", x.undo(2, true), 1);
        due("what hung on it", x.active(3), 0);
        due("what did not", x.active(1) + x.active(4) + x.active(5), 3);
        due("redo without it", x.redo(3), -3);
        due("undo", x.undo(4, false), -5);
        due("undo", x.undo(4, true), 1);
        due("redo without it", x.redo(5), -5);
        due("active", x.count(2), 1);
    }

    private static void newStepIsActive() {
        sentence("A new step is active.");
        Counted x = new Counted();
        due("set", x.active(x.set(0, 1)), 1);
        due("add", x.active(x.add(0, 1)), 1);
        due("insert", x.active(x.insert(0, 0, 1)), 1);
        due("move", x.active(x.move(0, 0, 0)), 1);
        due("remove", x.active(x.remove(0, 0)), 1);
        due("node", x.active(x.node(0)), 1);
        due("unlink", x.active(x.unlink(6)), 1);
        due("link", x.active(x.link(6, 0)), 1);
        due("active", x.count(2), 8);
        due("undoLast", x.undoLast(), 8);
        due("behind an undone one", x.active(x.set(0, 1)), 1);
        due("the undone one stays undone", x.active(8), 0);
    }
}
