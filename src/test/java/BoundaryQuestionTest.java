/** The boundary cases of promises 17 to 25: questions. */
public final class BoundaryQuestionTest extends Boundary {
    public static void main(String[] args) {
        activeNotInTheHistory();
        countOfAnother();
        historyOfNone();
        historyOfEachKind();
        cellNoneSuch();
        counterNoneSuch();
        lengthNoneSuch();
        elementNone();
        valueOfAnInsert();
        valueNoneSuch();
        parentNoneSuch();
        parentOfWhatIsUnderNothing();
        end();
    }

    private static void activeNotInTheHistory() {
        sentence("Promise 17: NONE if it is not in the history");
        for (int step : new int[] {0, -1, 16, 17, 200, MIN, MAX}) {
            dueNothing("active " + step, Boundary::some, x -> x.active(step), NONE);
        }
        dueNothing("left the history", Boundary::squashed, x -> x.active(9), NONE);
        dueNothing("a new object", Boundary::empty, x -> x.active(1), NONE);
        dueNothing("the first", Boundary::full, x -> x.active(1), 1);
        dueNothing("the last of 200", Boundary::full, x -> x.active(200), 1);
        dueNothing("undone", Boundary::full, x -> x.active(13), 0);
    }

    private static void countOfAnother() {
        sentence("Promise 18: NONE for another what");
        for (int what : new int[] {-1, 3, 4, MIN, MAX}) {
            dueNothing("count " + what, Boundary::some, x -> x.count(what), NONE);
        }
        dueNothing("steps", Boundary::full, x -> x.count(0), 200);
        dueNothing("latest number", Boundary::full, x -> x.count(1), 200);
        dueNothing("active", Boundary::full, x -> x.count(2), 197);
        dueNothing("steps", Boundary::squashed, x -> x.count(0), 12);
        dueNothing("the latest number may have left", Boundary::squashed, x -> x.count(1), 15);
        dueNothing("active", Boundary::squashed, x -> x.count(2), 12);
    }

    private static void historyOfNone() {
        sentence("Promise 19: Of step i of the history, from 0 on .. NONE if there is none such");
        for (int i : new int[] {-1, 15, 16, 199, 200, MIN, MAX}) {
            for (int what = 0; what < 3; what++) {
                int asked = what;
                dueNothing("history " + i, Boundary::some, x -> x.history(i, asked), NONE);
            }
        }
        for (int what : new int[] {-1, 3, 4, MIN, MAX}) {
            dueNothing("what " + what, Boundary::some, x -> x.history(0, what), NONE);
        }
        dueNothing("a new object", Boundary::empty, x -> x.history(0, 0), NONE);
        dueNothing("behind 200", Boundary::full, x -> x.history(200, 0), NONE);
        dueNothing("behind those left", Boundary::squashed, x -> x.history(12, 0), NONE);
        dueNothing("the first", Boundary::some, x -> x.history(0, 0), 1);
        dueNothing("the last", Boundary::some, x -> x.history(14, 0), 15);
        dueNothing("the last of 200", Boundary::full, x -> x.history(199, 0), 200);
        dueNothing("the last of those left", Boundary::squashed, x -> x.history(11, 0), 14);
    }

    private static void historyOfEachKind() {
        sentence("Promise 19: 2: the cell, counter, row, or node n (0 of NODE)");
        Counted x = made(Boundary::some);
        due("move", x.move(2, 0, 0), 16);
        due("link", x.link(8, 6), 17);
        due("remove", x.remove(2, 0), 18);
        int[] kinds = {1, 2, 3, 3, 3, 6, 6, 6, 6, 4, 7, 3, 6, 1, 1, 5, 8, 4};
        int[] named = {0, 1, 0, 0, 2, 0, 0, 0, 0, 0, 7, 0, 0, 7, 7, 2, 8, 2};
        for (int i = 0; i < kinds.length; i++) {
            due("kind of " + i, x.history(i, 1), kinds[i]);
            due("what " + i + " names", x.history(i, 2), named[i]);
        }
    }

    private static void cellNoneSuch() {
        sentence("Promise 20: 0 if there is none such");
        for (int c : new int[] {-1, 8, 9, MIN, MAX}) {
            dueNothing("cell " + c, Boundary::some, x -> x.cell(c), 0);
        }
        dueNothing("the first", Boundary::some, x -> x.cell(0), 5);
        dueNothing("the last", Boundary::some, x -> x.cell(7), 8);
        dueNothing("one between", Boundary::some, x -> x.cell(6), 0);
    }

    private static void counterNoneSuch() {
        sentence("Promise 21: 0 if there is none such");
        Way way = x -> {
            for (int k = 0; k < 4; k++) {
                due("add", x.add(k, Long.MIN_VALUE + k), k + 1);
            }
        };
        for (int k : new int[] {-1, 4, 5, MIN, MAX}) {
            dueNothing("counter " + k, way, x -> x.counter(k), 0);
        }
        dueNothing("the first", way, x -> x.counter(0), Long.MIN_VALUE);
        dueNothing("the last", way, x -> x.counter(3), Long.MIN_VALUE + 3);
    }

    private static void lengthNoneSuch() {
        sentence("Promise 22: NONE if there is none such");
        for (int row : new int[] {-1, 3, 4, MIN, MAX}) {
            dueNothing("length of " + row, Boundary::some, x -> x.length(row), NONE);
        }
        dueNothing("the first", Boundary::some, x -> x.length(0), 2);
        dueNothing("an empty one", Boundary::some, x -> x.length(1), 0);
        dueNothing("the last", Boundary::some, x -> x.length(2), 1);
        dueNothing("one of 40", x -> row(x, 2, 40), x -> x.length(2), 40);
    }

    private static void elementNone() {
        sentence("Promise 23: 0 if there is none");
        for (int i : new int[] {-1, 2, 3, 39, 40, MIN, MAX}) {
            dueNothing("element " + i, Boundary::some, x -> x.element(0, i), 0);
        }
        for (int row : new int[] {-1, 3, 4, MIN, MAX}) {
            dueNothing("row " + row, Boundary::some, x -> x.element(row, 0), 0);
        }
        dueNothing("an empty row", Boundary::some, x -> x.element(1, 0), 0);
        dueNothing("the first", Boundary::some, x -> x.element(0, 0), 3);
        dueNothing("the last", Boundary::some, x -> x.element(0, 1), 12);
        dueNothing("the last of 40", x -> row(x, 2, 40), x -> x.element(2, 39), 40);
        dueNothing("behind 40", x -> row(x, 2, 40), x -> x.element(2, 40), 0);
        Counted x = made(Boundary::some);
        due("remove", x.remove(0, 1), 16);
        due("what stood there", x.element(0, 1), 0);
        due("undo", x.undo(3, false), 1);
        due("what stood there", x.element(0, 0), 0);
    }

    private static void valueOfAnInsert() {
        sentence("Promise 24: The int v of an INSERT of the history, active or not");
        Way way = x -> {
            due("insert", x.insert(0, 0, MIN), 1);
            due("insert", x.insert(1, 0, MAX), 2);
            due("insert", x.insert(2, 0, -1), 3);
            due("remove", x.remove(1, 0), 4);
            due("undo", x.undo(3, false), 1);
        };
        dueNothing("the least", way, x -> x.value(1), MIN);
        dueNothing("the greatest, removed", way, x -> x.value(2), MAX);
        dueNothing("undone", way, x -> x.value(3), -1);
    }

    private static void valueNoneSuch() {
        sentence("Promise 24: 0 if there is none such");
        for (int step : new int[] {0, -1, 16, 17, MIN, MAX}) {
            dueNothing("value of " + step, Boundary::some, x -> x.value(step), 0);
        }
        for (int step : new int[] {1, 2, 6, 10, 11, 14, 15}) {
            dueNothing("value of " + step + ", no INSERT", Boundary::some, x -> x.value(step), 0);
        }
        for (int step : OTHERS_OF_MOVED) {
            dueNothing("value of " + step + ", no INSERT", Boundary::moved, x -> x.value(step), 0);
        }
        dueNothing("a new object", Boundary::empty, x -> x.value(1), 0);
        Way left = x -> {
            some(x);
            due("undo", x.undo(12, false), 1);
            due("squash", x.squash(), 11);
        };
        dueNothing("left the history", left, x -> x.value(12), 0);
    }

    private static void parentNoneSuch() {
        sentence("Promise 25: NONE if there is none such in the memory");
        for (int node : NO_NODES_OF_SOME) {
            dueNothing("parent of " + node, Boundary::some, x -> x.parent(node), NONE);
        }
        for (int node : OTHERS_OF_MOVED) {
            dueNothing("parent of " + node, Boundary::moved, x -> x.parent(node), NONE);
        }
        dueNothing("the root", Boundary::some, x -> x.parent(0), NONE);
        dueNothing("the root of a new object", Boundary::empty, x -> x.parent(0), NONE);
        dueNothing("left the history", Boundary::squashed, x -> x.parent(9), NONE);
        dueNothing("under the root", Boundary::some, x -> x.parent(6), 0);
        dueNothing("the lowest of 200", x -> chain(x, 1, 200), x -> x.parent(200), 199);
        dueNothing("the second of 200", x -> chain(x, 1, 200), x -> x.parent(2), 1);
    }

    private static void parentOfWhatIsUnderNothing() {
        sentence("Promise 25: NONE if .. it is under nothing");
        dueNothing("unlinked", Boundary::some, x -> x.parent(7), NONE);
        dueNothing("what is under that", Boundary::some, x -> x.parent(8), 7);
        Counted x = made(Boundary::some);
        due("link", x.link(7, 0), 16);
        due("under the root again", x.parent(7), 0);
        due("undo", x.undo(16, false), 1);
        due("under nothing again", x.parent(7), NONE);
        due("undo of the unlink", x.undo(11, false), 1);
        due("under the node again", x.parent(7), 6);
    }
}
