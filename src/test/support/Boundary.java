import java.util.ArrayList;
import java.util.List;

/**
 * What the tests of boundary cases share: each sentence of the document that names one (too small,
 * too large, empty, full, a wrap-around, a refused call) has a test of its own.
 */
abstract class Boundary {
    static final int NONE = UndoMemory.NONE;
    static final int MIN = Integer.MIN_VALUE;
    static final int MAX = Integer.MAX_VALUE;
    static final int MOST_STEPS = 200;
    static final int MOST_INSERTS = 40;
    /** Undone, taken along, steps that are no nodes, the next number, too small, too large. */
    static final int[] NO_NODES_OF_SOME = {9, 13, 1, 2, 3, 10, 11, 14, 16, 17, -1, -6, MIN, MAX};
    /** The MOVE, the LINK, the next number. */
    static final int[] OTHERS_OF_MOVED = {16, 17, 18};

    private static final int PARTS = 11;

    private static String sentence = "";
    private static int sentences = 0;
    private static int wrong = 0;

    /** Calls that bring a new object to a boundary. */
    interface Way {
        void on(Counted x);
    }

    interface Call {
        long on(Counted x);
    }

    static void sentence(String words) {
        sentence = words;
        sentences++;
    }

    static void due(String what, long got, long want) {
        if (got != want) {
            wrong++;
            System.out.println("[" + sentence + "] " + what + " answered " + got + ", due is " + want);
        }
    }

    static void dueRow(String what, Counted x, int row, int... elements) {
        due(what + ", length", x.length(row), elements.length);
        for (int i = 0; i < elements.length; i++) {
            due(what + ", element " + i, x.element(row, i), elements[i]);
        }
        due(what + ", behind the last", x.element(row, elements.length), 0);
    }

    static void dueTaken(String what, Counted x, int... steps) {
        for (int i = 0; i < steps.length; i++) {
            due(what + ", taken " + i, x.taken(i), steps[i]);
        }
        due(what + ", taken behind the last", x.taken(steps.length), NONE);
    }

    static void dueMemoryIsEmpty(Counted x) {
        for (int c = 0; c < 8; c++) {
            due("cell " + c, x.cell(c), 0);
        }
        for (int k = 0; k < 4; k++) {
            due("counter " + k, x.counter(k), 0);
        }
        for (int row = 0; row < 3; row++) {
            dueRow("row " + row, x, row);
        }
        for (int node = 0; node < 17; node++) {
            due("parent of " + node, x.parent(node), NONE);
        }
    }

    static Counted made(Way way) {
        Counted x = new Counted();
        way.on(x);
        return x;
    }

    /**
     * The call answers as due and nothing happens: all questions (of dependsOn, those on the first
     * steps) are answered as by an object without that call. They are asked in parts, on new
     * objects, to keep the calls few.
     */
    static void dueNothing(String what, Way way, Call call, long want) {
        for (int part = 0; part < PARTS; part++) {
            Counted x = made(way);
            due(what, call.on(x), want);
            List<Long> seen = look(x, part);
            List<Long> without = look(made(way), part);
            if (!seen.equals(without)) {
                wrong++;
                System.out.println("[" + sentence + "] " + what + " changed " + without + " to " + seen);
            }
        }
    }

    private static List<Long> look(Counted x, int part) {
        List<Long> seen = new ArrayList<>();
        int latest = x.count(1);
        switch (part) {
            case 0:
                lookAtMemory(x, seen);
                break;
            case 1:
            case 2:
            case 3:
                for (int i = 0; i <= MOST_STEPS; i++) {
                    seen.add((long) x.history(i, part - 1));
                }
                break;
            case 4:
            case 5:
            case 6:
                for (int step = latest + 1; step >= 0 && step > latest - MOST_STEPS - 5; step--) {
                    seen.add((long) (part == 4 ? x.active(step) : part == 5 ? x.value(step) : x.parent(step)));
                }
                break;
            case 7:
                for (int i = 0; i <= MOST_STEPS; i++) {
                    seen.add((long) x.taken(i));
                }
                break;
            case 8:
                for (int pair = 0; pair < 256; pair++) {
                    seen.add((long) x.dependsOn(pair / 16, pair % 16));
                }
                break;
            case 9:
                lookBack(x, seen);
                break;
            default:
                lookForth(x, seen);
                break;
        }
        return seen;
    }

    private static void lookAtMemory(Counted x, List<Long> seen) {
        for (int what = 0; what < 3; what++) {
            seen.add((long) x.count(what));
        }
        for (int c = 0; c < 8; c++) {
            seen.add((long) x.cell(c));
        }
        for (int k = 0; k < 4; k++) {
            seen.add(x.counter(k));
        }
        for (int row = 0; row < 3; row++) {
            seen.add((long) x.length(row));
            for (int i = 0; i <= MOST_INSERTS; i++) {
                seen.add((long) x.element(row, i));
            }
        }
    }

    private static void lookBack(Counted x, List<Long> seen) {
        int step = x.undoLast();
        while (step != 0) {
            seen.add((long) step);
            step = x.undoLast();
        }
    }

    private static void lookForth(Counted x, List<Long> seen) {
        int step = x.redoNext();
        while (step != 0) {
            seen.add((long) step);
            step = x.redoNext();
        }
        seen.add((long) x.squash());
        seen.add((long) x.set(0, 1));
    }

    /** Ends the test, with exit code 1 if an answer was not the one that is due. */
    static void end() {
        String all = sentences + " sentences";
        System.out.println(wrong == 0 ? all + " hold" : wrong + " answers are not as due, of " + all);
        if (wrong != 0) {
            System.exit(1);
        }
    }

    // Objects at a boundary.

    static void empty(Counted x) {
    }

    /**
     * Some of everything. Row 0 is 3, 12 and row 2 is 5; 6 is under the root, 7 under nothing and
     * 8 under 7; 9, 13 and 15 are undone, 13 was taken along; element 4 was removed.
     */
    static void some(Counted x) {
        due("set", x.set(0, 5), 1);
        due("add", x.add(1, 9), 2);
        due("insert", x.insert(0, 0, 10), 3);
        due("insert", x.insert(0, 1, 20), 4);
        due("insert", x.insert(2, 0, 30), 5);
        due("node", x.node(0), 6);
        due("node", x.node(6), 7);
        due("node", x.node(7), 8);
        due("node", x.node(0), 9);
        due("remove", x.remove(0, 1), 10);
        due("unlink", x.unlink(7), 11);
        due("insert", x.insert(0, 1, 40), 12);
        due("node", x.node(9), 13);
        due("set", x.set(7, 8), 14);
        due("set", x.set(7, 9), 15);
        due("undoLast", x.undoLast(), 15);
        due("undo", x.undo(9, true), 1);
    }

    /** As some, and a MOVE and a LINK. */
    static void moved(Counted x) {
        some(x);
        due("move", x.move(0, 0, 1), 16);
        due("link", x.link(8, 6), 17);
    }

    /** As some, but 9, 13 and 15 have left the history. */
    static void squashed(Counted x) {
        some(x);
        due("squash", x.squash(), 12);
    }

    static void someUpTo(Counted x, int steps) {
        some(x);
        for (int step = 16; step <= steps; step++) {
            due("add no. " + step, x.add(0, step), step);
        }
    }

    static void full(Counted x) {
        someUpTo(x, MOST_STEPS);
    }

    static void oneBelowFull(Counted x) {
        someUpTo(x, MOST_STEPS - 1);
    }

    /** Steps that depend, each on the one before it: undoing the first one takes all along. */
    static void chain(Counted x, int first, int last) {
        for (int step = first; step <= last; step++) {
            due("node no. " + step, x.node(step == first ? 0 : step - 1), step);
        }
    }

    static void fullOfUndone(Counted x) {
        chain(x, 1, MOST_STEPS);
        due("undo of all", x.undo(1, true), 1);
        due("none is active", x.count(2), 0);
    }

    /** Elements 1 .. last in this order. */
    static void row(Counted x, int row, int last) {
        for (int step = 1; step <= last; step++) {
            due("insert no. " + step, x.insert(row, step - 1, 100 + step), step);
        }
    }
}
