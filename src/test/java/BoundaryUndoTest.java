/** The boundary cases of promises 10 to 16: steps undone and done again. */
public final class BoundaryUndoTest extends Boundary {
    public static void main(String[] args) {
        undoAlone();
        undoAlong();
        undoOfAll();
        undoNoSuchStep();
        undoOfAnUndoneStep();
        redoOfWhatIsImpossible();
        redoThatMakesOthersImpossible();
        redoNoSuchStep();
        redoOfAnActiveStep();
        takenByIndex();
        takenByUndoLast();
        takenByCallsThatTookNothing();
        dependsOnSteps();
        dependsAtItsTurn();
        dependsThroughOthers();
        dependsOnWhatIsNotInTheHistory();
        dependsOnWhatIsNotActive();
        dependsOnWhatIsNotBefore();
        dependsWhenUndoneOrImpossible();
        undoLastOfNone();
        redoNextOfNone();
        redoNextThatCannotBe();
        redoNextOfAll();
        squashOfNoneAndAll();
        squashIsForGood();
        end();
    }

    private static void undoAlone() {
        sentence("Promise 10: alone (along is false): nothing happens, and the answer is the least such number, with a minus");
        Way three = x -> {
            some(x);
            due("link", x.link(8, 6), 16);
            due("node", x.node(8), 17);
        };
        dueNothing("undo of 8, which 16 and 17 name", three, x -> x.undo(8, false), -16);
        dueNothing("undo of 7, which 8, 11, 16 and 17 need", three, x -> x.undo(7, false), -8);
        dueNothing("undo of 6, which most need", three, x -> x.undo(6, false), -7);
        dueNothing("undo of an element that 10 names", three, x -> x.undo(4, false), -10);
        Way last = x -> {
            chain(x, 1, 198);
            due("unlink", x.unlink(1), 199);
            due("link", x.link(198, 1), 200);
        };
        dueNothing("undo that hurts the last of 200", last, x -> x.undo(198, false), -200);
        due("along with it", made(last).undo(198, true), 1);
    }

    private static void undoAlong() {
        sentence("Promise 10: else, again and again, the least impossible one is undone, too, until none is: 1");
        Counted x = made(Boundary::some);
        due("undo", x.undo(6, true), 1);
        dueTaken("one after the other", x, 7, 8, 11);
        due("active", x.count(2), 8);
        due("none takes part that was undone", x.redo(13), -13);
        due("undo with none to take along", x.undo(2, true), 1);
        dueTaken("none", x);

        Counted y = new Counted();
        chain(y, 1, 2);
        due("unlink", y.unlink(2), 3);
        due("link", y.link(1, 2), 4);
        due("unlink", y.unlink(1), 5);
        due("link", y.link(2, 1), 6);
        due("undo of what made room", y.undo(3, true), 1);
        dueTaken("the one that closes a ring, not what comes after it", y, 4);
        due("parents", y.parent(1), NONE);
        due("parents", y.parent(2), 1);
    }

    private static void undoOfAll() {
        sentence("Promise 10: .. too, until none is: of a full history, all others");
        Counted x = made(Boundary::fullOfUndone);
        for (int i = 0; i < 199; i++) {
            due("taken " + i, x.taken(i), i + 2);
        }
        due("behind the last", x.taken(199), NONE);
        due("active", x.count(2), 0);
        due("steps", x.count(0), 200);
        due("the first is undone", x.active(1), 0);
        due("the last is undone", x.active(200), 0);
    }

    private static void undoNoSuchStep() {
        sentence("Promise 10: 0 if there is no such step in the history");
        for (int step : new int[] {0, -1, -3, 16, 17, 201, MIN, MAX}) {
            dueNothing("undo of " + step, Boundary::some, x -> x.undo(step, false), 0);
            dueNothing("undo along of " + step, Boundary::some, x -> x.undo(step, true), 0);
        }
        dueNothing("undo of one that left", Boundary::squashed, x -> x.undo(9, false), 0);
        dueNothing("undo along of one that left", Boundary::squashed, x -> x.undo(9, true), 0);
        dueNothing("undo in a new object", Boundary::empty, x -> x.undo(1, true), 0);
        dueNothing("undo behind a full history", Boundary::full, x -> x.undo(201, true), 0);
    }

    private static void undoOfAnUndoneStep() {
        sentence("Promise 10: 0 if .. it is undone");
        for (int step : new int[] {9, 13, 15}) {
            dueNothing("undo of " + step, Boundary::some, x -> x.undo(step, false), 0);
            dueNothing("undo along of " + step, Boundary::some, x -> x.undo(step, true), 0);
        }
    }

    private static void redoOfWhatIsImpossible() {
        sentence("Promise 11: if one is impossible then: nothing happens, and the answer is the least such number, with a minus");
        dueNothing("redo of a node whose parent is undone", Boundary::some, x -> x.redo(13), -13);
        Way removed = x -> {
            some(x);
            due("undo", x.undo(4, true), 1);
        };
        dueNothing("redo of a remove whose element is undone", removed, x -> x.redo(10), -10);
        Way left = x -> {
            some(x);
            due("undo", x.undo(6, true), 1);
            due("redo", x.redo(6) + x.redo(7), 2);
            due("undo", x.undo(11, false), 0);
            due("undo", x.undo(7, true), 1);
        };
        dueNothing("redo of an unlink whose node is undone", left, x -> x.redo(11), -11);
        Counted x = made(Boundary::some);
        due("redo of the parent first", x.redo(9), 1);
        due("then it can be", x.redo(13), 1);
        due("parent", x.parent(13), 9);
    }

    private static void redoThatMakesOthersImpossible() {
        sentence("Promise 11: if one is impossible then: .. the least such number, be it another one");
        Way way = x -> {
            due("node", x.node(0), 1);
            due("node", x.node(0), 2);
            due("link", x.link(1, 2), 3);
            due("undo", x.undo(3, false), 1);
            due("set", x.set(0, 1), 4);
            due("link the other way", x.link(2, 1), 5);
            due("link again", x.link(2, 1), 6);
        };
        dueNothing("redo that closes two rings", way, x -> x.redo(3), -5);
        Counted x = made(way);
        due("undo", x.undo(5, false), 1);
        due("the other ring", x.redo(3), -6);
        due("undo", x.undo(6, false), 1);
        due("no ring", x.redo(3), 1);
        due("parent", x.parent(1), 2);
        due("now the others", x.redo(5), -5);
    }

    private static void redoNoSuchStep() {
        sentence("Promise 11: 0 if there is no such step in the history");
        for (int step : new int[] {0, -1, -9, 16, 17, 201, MIN, MAX}) {
            dueNothing("redo of " + step, Boundary::some, x -> x.redo(step), 0);
        }
        for (int step : new int[] {9, 13, 15}) {
            dueNothing("redo of one that left", Boundary::squashed, x -> x.redo(step), 0);
        }
        dueNothing("redo in a new object", Boundary::empty, x -> x.redo(1), 0);
    }

    private static void redoOfAnActiveStep() {
        sentence("Promise 11: 0 if .. it is active");
        for (int step : new int[] {1, 2, 3, 8, 10, 11, 14}) {
            dueNothing("redo of " + step, Boundary::some, x -> x.redo(step), 0);
        }
    }

    private static void takenByIndex() {
        sentence("Promise 12: as the i-th, from 0 on; NONE if there is none");
        dueNothing("the only one", Boundary::some, x -> x.taken(0), 13);
        for (int i : new int[] {-1, 1, 2, 199, 200, MIN, MAX}) {
            dueNothing("taken " + i, Boundary::some, x -> x.taken(i), NONE);
        }
        dueNothing("no undo yet", Boundary::empty, x -> x.taken(0), NONE);
    }

    private static void takenByUndoLast() {
        sentence("Promise 12: the latest undo that answered 1 (undoLast, too, which takes none)");
        Counted x = made(Boundary::some);
        dueTaken("before", x, 13);
        due("undoLast", x.undoLast(), 14);
        dueTaken("it took none", x);
        due("undo", x.undo(7, true), 1);
        dueTaken("the latest", x, 8, 11);
        due("undo alone", x.undo(1, false), 1);
        dueTaken("it took none", x);
    }

    private static void takenByCallsThatTookNothing() {
        sentence("Promise 12: the latest undo that answered 1: no other call");
        Counted x = made(Boundary::some);
        due("undo that answers 0", x.undo(9, true) + x.undo(0, true) + x.undo(99, false), 0);
        dueTaken("as it was", x, 13);
        due("undo that answers less", x.undo(6, false), -7);
        dueTaken("as it was", x, 13);
        due("redo", x.redo(9), 1);
        due("redo of what was taken", x.redo(13), 1);
        due("redoNext", x.redoNext(), 15);
        due("set", x.set(0, 1), 16);
        dueTaken("as it was", x, 13);
        due("squash", x.squash(), 16);
        dueTaken("as it was", x, 13);
        Counted y = made(Boundary::fullOfUndone);
        due("undoLast of none", y.undoLast(), 0);
        due("squash", y.squash(), 0);
        due("as it was", y.taken(198), 200);
    }

    private static void dependsOnSteps() {
        sentence("Promise 13: Step a would be impossible at its turn in the replay of the active steps before it without b");
        Way way = x -> {
            chain(x, 1, 199);
            due("link", x.link(199, 1), 200);
        };
        dueNothing("the last on the first", way, x -> x.dependsOn(200, 1), 1);
        dueNothing("the last on the one before", way, x -> x.dependsOn(200, 199), 1);
        dueNothing("the second on the first", way, x -> x.dependsOn(2, 1), 1);
        dueNothing("a set", Boundary::full, x -> x.dependsOn(14, 1), 0);
        dueNothing("a remove on its element", Boundary::full, x -> x.dependsOn(10, 4), 1);
        dueNothing("a remove on another element", Boundary::full, x -> x.dependsOn(10, 3), 0);
    }

    private static void dependsAtItsTurn() {
        sentence("Promise 13: .. at its turn in the replay of the active steps before it: later ones and undone ones do not count");
        Way way = x -> {
            due("set", x.set(0, 1), 1);
            due("node", x.node(0), 2);
            due("node", x.node(0), 3);
            due("unlink", x.unlink(2), 4);
            due("link", x.link(2, 3), 5);
            due("link", x.link(2, 0), 6);
            due("link the other way", x.link(3, 2), 7);
            due("undo", x.undo(4, false), 1);
        };
        dueNothing("a later ring", way, x -> x.dependsOn(5, 1), 0);
        dueNothing("what it names", way, x -> x.dependsOn(5, 2), 1);
        dueNothing("what opens the ring", way, x -> x.dependsOn(7, 6), 1);
        dueNothing("what closes a ring that is open again", way, x -> x.dependsOn(7, 5), 0);
    }

    private static void dependsThroughOthers() {
        sentence("Promise 13: (others that are impossible then are passed over)");
        Way deep = x -> chain(x, 1, 200);
        dueNothing("the last on the first", deep, x -> x.dependsOn(200, 1), 1);
        dueNothing("the last on the second", deep, x -> x.dependsOn(200, 2), 1);
        Way opened = x -> {
            chain(x, 1, 2);
            due("node", x.node(0), 3);
            due("link", x.link(2, 3), 4);
            due("link", x.link(1, 2), 5);
        };
        dueNothing("a link on a node that the link it needs names", opened, x -> x.dependsOn(5, 3), 1);
        dueNothing("on that link", opened, x -> x.dependsOn(5, 4), 1);
    }

    private static void dependsOnWhatIsNotInTheHistory() {
        sentence("Promise 13: false if one of them is not in the history");
        for (int step : new int[] {0, -1, 16, 17, MIN, MAX}) {
            dueNothing("of " + step, Boundary::some, x -> x.dependsOn(step, 6), 0);
            dueNothing("on " + step, Boundary::some, x -> x.dependsOn(13, step), 0);
            dueNothing("of itself " + step, Boundary::some, x -> x.dependsOn(step, step), 0);
        }
        dueNothing("of an impossible one that left", Boundary::squashed, x -> x.dependsOn(13, 1), 0);
        dueNothing("on one that left", Boundary::squashed, x -> x.dependsOn(14, 9), 0);
    }

    private static void dependsOnWhatIsNotActive() {
        sentence("Promise 13: false if .. b is not active");
        dueNothing("an undone parent", Boundary::some, x -> x.dependsOn(13, 9), 0);
        Counted x = made(Boundary::some);
        due("redo of the parent", x.redo(9), 1);
        due("now", x.dependsOn(13, 9), 1);
    }

    private static void dependsOnWhatIsNotBefore() {
        sentence("Promise 13: false if .. b .. not before a");
        dueNothing("on itself, active", Boundary::some, x -> x.dependsOn(7, 7), 0);
        dueNothing("on itself, impossible", Boundary::some, x -> x.dependsOn(13, 13), 0);
        dueNothing("an impossible one on a later one", Boundary::some, x -> x.dependsOn(13, 14), 0);
        dueNothing("an impossible one on the one before", Boundary::some, x -> x.dependsOn(13, 12), 1);
        dueNothing("the other way round", Boundary::some, x -> x.dependsOn(6, 7), 0);
    }

    private static void dependsWhenUndoneOrImpossible() {
        sentence("Promise 13: (a may be undone, or impossible with b, too.)");
        Way undone = x -> {
            some(x);
            due("redo", x.redo(9), 1);
        };
        dueNothing("undone, with its parent", undone, x -> x.dependsOn(13, 9), 1);
        dueNothing("undone, with its parent, on another", undone, x -> x.dependsOn(13, 6), 0);
        dueNothing("impossible, on a set", Boundary::some, x -> x.dependsOn(13, 1), 1);
        dueNothing("undone, but never impossible", Boundary::some, x -> x.dependsOn(15, 1), 0);
    }

    private static void undoLastOfNone() {
        sentence("Promise 14: 0 if there is none");
        dueNothing("new", Boundary::empty, Counted::undoLast, 0);
        dueNothing("all are undone", Boundary::fullOfUndone, Counted::undoLast, 0);
        Way left = x -> {
            fullOfUndone(x);
            due("squash", x.squash(), 0);
        };
        dueNothing("all have left", left, Counted::undoLast, 0);
        Counted x = made(Boundary::full);
        due("the last of 200", x.undoLast(), 200);
        Counted y = made(Boundary::some);
        due("undone ones are passed by", y.undoLast(), 14);
        due("undone ones are passed by", y.undoLast(), 12);
        for (int i = 0; i < 9; i++) {
            due("undoLast finds one", y.undoLast() > 1 ? 1 : 0, 1);
        }
        due("the very first", y.undoLast(), 1);
        due("none", y.undoLast(), 0);
    }

    private static void redoNextOfNone() {
        sentence("Promise 15: The first undone step behind the latest active one .. 0 if there is none");
        dueNothing("new", Boundary::empty, Counted::redoNext, 0);
        dueNothing("undone ones, but none behind the latest active one", Boundary::full, Counted::redoNext, 0);
        dueNothing("all undone ones have left", Boundary::squashed, Counted::redoNext, 0);
        dueNothing("none is undone", x -> chain(x, 1, 200), Counted::redoNext, 0);
        Counted x = made(Boundary::some);
        due("behind the latest active one, not the first undone one", x.redoNext(), 15);
        due("none", x.redoNext(), 0);
        due("others stay undone", x.active(9) + x.active(13), 0);
    }

    private static void redoNextThatCannotBe() {
        sentence("Promise 15: 0 if .. it can't be");
        Way way = x -> {
            some(x);
            due("undoLast", x.undoLast(), 14);
        };
        dueNothing("the next one is impossible", way, Counted::redoNext, 0);
        Counted x = made(way);
        due("not the one behind it", x.redoNext() + x.active(14) + x.active(15), 0);
        due("redo of what it names", x.redo(9), 1);
        due("now it can be", x.redoNext(), 13);
        due("and the next", x.redoNext(), 14);
    }

    private static void redoNextOfAll() {
        sentence("Promise 15: (of all, if none is active)");
        Counted x = made(Boundary::fullOfUndone);
        for (int step = 1; step <= 200; step++) {
            due("redoNext", x.redoNext(), step);
        }
        due("no more", x.redoNext(), 0);
        due("active", x.count(2), 200);
    }

    private static void squashOfNoneAndAll() {
        sentence("Promise 16: how many are left");
        dueNothing("none in the history", Boundary::empty, Counted::squash, 0);
        dueNothing("none undone", x -> chain(x, 1, 200), Counted::squash, 200);
        dueNothing("none undone any more", Boundary::squashed, Counted::squash, 12);
        due("three undone", made(Boundary::full).squash(), 197);
        Counted x = made(Boundary::fullOfUndone);
        due("all undone", x.squash(), 0);
        due("steps", x.count(0), 0);
        due("latest number", x.count(1), 200);
        due("history", x.history(0, 0), NONE);
        due("the next number", x.set(0, 1), 201);
    }

    private static void squashIsForGood() {
        sentence("Promise 16: Undone steps leave the history for good");
        Counted x = made(Boundary::squashed);
        int[] left = {1, 2, 3, 4, 5, 6, 7, 8, 10, 11, 12, 14};
        for (int i = 0; i < left.length; i++) {
            due("history " + i, x.history(i, 0), left[i]);
        }
        due("no more", x.history(12, 0), NONE);
        for (int step : new int[] {9, 13, 15}) {
            due("active", x.active(step), NONE);
            due("redo", x.redo(step), 0);
            due("undo", x.undo(step, true), 0);
        }
        due("redoNext", x.redoNext(), 0);
        dueRow("the memory is as it was", x, 0, 3, 12);
        due("cell", x.cell(7), 8);
        due("parents", x.parent(8), 7);
    }
}
