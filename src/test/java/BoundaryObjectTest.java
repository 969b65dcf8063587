/** The boundary cases of what the object is, of the terms that tell its limits, and of promise 1. */
public final class BoundaryObjectTest extends Boundary {
    public static void main(String[] args) {
        calls();
        cells();
        counters();
        countersRunOver();
        rows();
        numbers();
        historyOfAtMost200();
        none();
        newObject();
        end();
    }

    private static void calls() {
        sentence("An object is used for at most 512 calls after it has been made.");
        Counted x = new Counted();
        chain(x, 1, 200);
        due("undo", x.undo(1, true), 1);
        due("squash", x.squash(), 0);
        chain(x, 201, 400);
        due("undo", x.undo(201, true), 1);
        due("squash", x.squash(), 0);
        for (int step = 401; step <= 508; step++) {
            due("set no. " + step, x.set(7, step), step);
        }
        due("calls made", x.calls(), 512);

        Counted y = new Counted();
        for (int i = 0; i < 510; i++) {
            due("refused", y.set(8, 1), 0);
        }
        due("the 511th call", y.set(0, 5), 1);
        due("the 512th call", y.cell(0), 5);

        Counted z = new Counted();
        due("set", z.set(0, 5), 1);
        for (int i = 0; i < 255; i++) {
            due("undo", z.undo(1, false), 1);
            due("redo", z.redo(1), 1);
        }
        due("the 512th call", z.undoLast(), 1);
        due("calls made", z.calls(), 512);
    }

    private static void cells() {
        sentence("CELLS 0 .. 7 (ints)");
        Counted x = new Counted();
        for (int c = 0; c < 8; c++) {
            due("set cell " + c, x.set(c, c % 2 == 0 ? MIN + c : MAX - c), c + 1);
        }
        for (int c = 0; c < 8; c++) {
            due("cell " + c, x.cell(c), c % 2 == 0 ? MIN + c : MAX - c);
        }
        due("no cell before the first", x.set(-1, 1), 0);
        due("no cell behind the last", x.set(8, 1), 0);
        due("set to 0", x.set(7, 0), 9);
        due("cell 7", x.cell(7), 0);
        due("set to what it is", x.set(7, 0), 10);
    }

    private static void counters() {
        sentence("COUNTERS 0 .. 3 (longs)");
        Counted x = new Counted();
        for (int k = 0; k < 4; k++) {
            due("add to counter " + k, x.add(k, (1L << 32) + k), k + 1);
        }
        due("add", x.add(3, -(1L << 40)), 5);
        for (int k = 0; k < 3; k++) {
            due("counter " + k, x.counter(k), (1L << 32) + k);
        }
        due("counter 3", x.counter(3), (1L << 32) + 3 - (1L << 40));
        due("add of 0", x.add(0, 0), 6);
        due("counter 0", x.counter(0), 1L << 32);
        due("no counter before the first", x.add(-1, 1), 0);
        due("no counter behind the last", x.add(4, 1), 0);
    }

    private static void countersRunOver() {
        sentence("COUNTERS .. that run over");
        Counted x = new Counted();
        due("add", x.add(0, Long.MAX_VALUE), 1);
        due("add", x.add(0, 1), 2);
        due("over the upper end", x.counter(0), Long.MIN_VALUE);
        due("add", x.add(0, -1), 3);
        due("and back over the lower end", x.counter(0), Long.MAX_VALUE);
        due("undo of the first", x.undo(1, false), 1);
        due("without it", x.counter(0), 0);
        due("redo", x.redo(1), 1);
        due("with it again", x.counter(0), Long.MAX_VALUE);
        due("add", x.add(3, Long.MIN_VALUE), 4);
        due("the least", x.counter(3), Long.MIN_VALUE);
        due("add", x.add(3, Long.MIN_VALUE), 5);
        due("twice the least", x.counter(3), 0);
        due("undo", x.undo(4, false), 1);
        due("once again", x.counter(3), Long.MIN_VALUE);
        due("add", x.add(2, Long.MAX_VALUE), 6);
        due("add", x.add(2, Long.MAX_VALUE), 7);
        due("twice the greatest", x.counter(2), -2);
        due("another counter", x.counter(1), 0);
    }

    private static void rows() {
        sentence("ROWS 0 .. 2 of ELEMENTS (each with an int)");
        Counted x = new Counted();
        int[] values = {MIN, MAX, -1};
        for (int row = 0; row < 3; row++) {
            due("insert in row " + row, x.insert(row, 0, values[row]), row + 1);
        }
        for (int row = 0; row < 3; row++) {
            dueRow("row " + row, x, row, row + 1);
            due("value in row " + row, x.value(row + 1), values[row]);
        }
        due("no row before the first", x.insert(-1, 0, 1), 0);
        due("no row behind the last", x.insert(3, 0, 1), 0);
    }

    private static void numbers() {
        sentence("STEPS are numbered 1, 2, .. as they are made");
        Counted x = new Counted();
        due("the first", x.set(0, 1), 1);
        due("a refused one gets none", x.set(8, 1) + x.add(4, 1) + x.insert(3, 0, 1) + x.remove(0, 0)
            + x.move(0, 0, 0) + x.node(9) + x.unlink(9) + x.link(9, 0), 0);
        due("the next", x.set(0, 2), 2);
        due("undoLast", x.undoLast(), 2);
        due("an undone one keeps its own", x.set(0, 3), 3);
        due("undoLast", x.undoLast(), 3);
        due("squash", x.squash(), 1);
        due("one that left is not given anew", x.set(0, 4), 4);
        due("undo", x.undo(1, false) + x.undo(4, false), 2);
        due("squash", x.squash(), 0);
        due("nor if none is left", x.set(0, 5), 5);
        due("the latest", x.count(1), 5);
    }

    private static void historyOfAtMost200() {
        sentence("THE HISTORY has at most 200 steps");
        Counted x = made(Boundary::full);
        due("steps", x.count(0), 200);
        due("a 201st", x.set(0, 1), 0);
        due("the last one is in it", x.history(199, 0), 200);
        due("none behind it", x.history(200, 0), NONE);
        due("undo", x.undo(200, false), 1);
        due("an undone one is in it", x.set(0, 1), 0);
        due("squash", x.squash(), 196);
        for (int step = 201; step <= 204; step++) {
            due("as many as left", x.set(0, step), step);
        }
        due("no more", x.set(0, 1), 0);
        due("the last one", x.history(199, 0), 204);

        Counted y = made(Boundary::fullOfUndone);
        due("all are undone", y.set(0, 1), 0);
        due("squash", y.squash(), 0);
        chain(y, 201, 400);
        due("no more", y.set(0, 1), 0);
        due("steps", y.count(0), 200);
    }

    private static void none() {
        sentence("NONE = -1: Nothing there.");
        due("NONE", NONE, -1);
    }

    private static void newObject() {
        sentence("Promise 1: No steps.");
        Counted x = new Counted();
        due("steps", x.count(0), 0);
        due("latest number", x.count(1), 0);
        due("active", x.count(2), 0);
        due("history", x.history(0, 0), NONE);
        due("step 1", x.active(1), NONE);
        due("undo", x.undo(1, false) + x.undo(1, true) + x.redo(1), 0);
        due("undoLast and redoNext", x.undoLast() + x.redoNext(), 0);
        due("squash", x.squash(), 0);
        due("taken", x.taken(0), NONE);
        due("dependsOn", x.dependsOn(1, 1) + x.dependsOn(2, 1) + x.dependsOn(0, 0), 0);
        dueMemoryIsEmpty(x);
    }
}
