import java.util.ArrayList;
import java.util.HashMap;
import java.util.List;
import java.util.Map;

/**
 * Long runs of calls, the same ones each time, on the class and on a slow model that follows the
 * document word by word: it keeps no memory, but replays all active steps for each question.
 */
public final class ModelTest {
    private static final int RUNS = 400;
    private static final int CALLS = 512;
    private static final int NONE = -1;

    /** Mixes of calls: how often each of the kinds of steps and of calls comes. */
    private static final int[][] MIXES = {
        {4, 4, 4, 3, 4, 4, 2, 6, 6, 4, 2, 2, 1},
        {1, 1, 9, 3, 9, 0, 0, 0, 6, 5, 1, 1, 0},
        {0, 0, 0, 0, 0, 6, 4, 14, 6, 5, 2, 2, 0},
        {2, 2, 6, 1, 6, 6, 2, 8, 1, 1, 1, 1, 0},
        {1, 1, 3, 3, 3, 3, 3, 3, 12, 12, 3, 3, 1},
        {0, 0, 20, 1, 2, 0, 0, 0, 3, 2, 1, 1, 1},
    };

    private static int wrong = 0;
    private static long seed;

    /** A plain row of numbers that look mixed, from a fixed beginning. */
    private static int pick(int bound) {
        seed = seed * 6364136223846793005L + 1442695040888963407L;
        return (int) ((seed >>> 33) % bound);
    }

    private static final class Step {
        int number;
        int kind;
        int target;
        int named;
        long amount;
        List<Integer> place = List.of();
        boolean active = true;
    }

    private static final class Replay {
        final int[] cells = new int[8];
        final long[] counters = new long[4];
        final List<List<Integer>> rows = List.of(new ArrayList<>(), new ArrayList<>(), new ArrayList<>());
        final Map<Integer, Boolean> inserted = new HashMap<>();
        final Map<Integer, Integer> parents = new HashMap<>();
        final List<Integer> impossible = new ArrayList<>();

        Replay(List<Step> steps) {
            for (Step step : steps) {
                if (isImpossible(step)) {
                    impossible.add(step.number);
                } else {
                    perform(step);
                }
            }
        }

        boolean isImpossible(Step s) {
            boolean lacksNode = !parents.containsKey(s.target);
            boolean lacksParent = s.named != 0 && !parents.containsKey(s.named);
            switch (s.kind) {
                case 4: case 5: return !inserted.containsKey(s.named);
                case 6: return lacksParent;
                case 7: return lacksNode;
                case 8: return lacksNode || lacksParent || isBelowOrAt(s.named, s.target);
                default: return false;
            }
        }

        boolean isBelowOrAt(int low, int high) {
            return low == high || (parents.containsKey(low) && isBelowOrAt(parents.get(low), high));
        }

        void perform(Step s) {
            switch (s.kind) {
                case 1: cells[s.target] = (int) s.amount; break;
                case 2: counters[s.target] += s.amount; break;
                case 3: inserted.put(s.number, true); put(rows.get(s.target), s.number, s.place); break;
                case 4: rows.get(s.target).remove((Object) s.named); break;
                case 5:
                    if (rows.get(s.target).remove((Object) s.named)) {
                        put(rows.get(s.target), s.named, s.place);
                    }
                    break;
                case 6: parents.put(s.number, s.named); break;
                case 7: parents.put(s.target, NONE); break;
                default: parents.put(s.target, s.named); break;
            }
        }

        static void put(List<Integer> row, int element, List<Integer> place) {
            for (int told : place) {
                if (row.contains(told)) {
                    row.add(row.indexOf(told) + 1, element);
                    return;
                }
            }
            row.add(0, element);
        }
    }

    private static final class Model {
        final List<Step> history = new ArrayList<>();
        int latest = 0;
        List<Integer> taken = new ArrayList<>();

        List<Step> activeOnes() {
            List<Step> found = new ArrayList<>();
            for (Step step : history) {
                if (step.active) {
                    found.add(step);
                }
            }
            return found;
        }

        Replay memory() {
            return new Replay(activeOnes());
        }

        Step find(int number) {
            for (Step step : history) {
                if (step.number == number) {
                    return step;
                }
            }
            return null;
        }

        int make(int kind, int target, int named, long amount, List<Integer> place) {
            if (history.size() >= 200) {
                return 0;
            }
            Step s = new Step();
            s.number = latest + 1;
            s.kind = kind;
            s.target = target;
            s.named = named;
            s.amount = amount;
            s.place = place;
            if (memory().isImpossible(s)) {
                return 0;
            }
            latest++;
            history.add(s);
            return latest;
        }

        static List<Integer> place(List<Integer> row, int at) {
            List<Integer> told = new ArrayList<>();
            for (int i = at - 1; i >= 0; i--) {
                told.add(row.get(i));
            }
            return told;
        }

        int set(int cell, int v) {
            return cell < 0 || cell > 7 ? 0 : make(1, cell, 0, v, List.of());
        }

        int add(int counter, long d) {
            return counter < 0 || counter > 3 ? 0 : make(2, counter, 0, d, List.of());
        }

        int insert(int row, int at, int v) {
            if (row < 0 || row > 2) {
                return 0;
            }
            long inserts = history.stream().filter(s -> s.kind == 3 && s.target == row).count();
            List<Integer> line = memory().rows.get(row);
            if (at < 0 || at > line.size() || inserts >= 40) {
                return 0;
            }
            return make(3, row, 0, v, place(line, at));
        }

        int remove(int row, int at) {
            int element = element(row, at);
            return element == 0 ? 0 : make(4, row, element, 0, List.of());
        }

        int move(int row, int from, int to) {
            int element = element(row, from);
            if (element == 0 || element(row, to) == 0) {
                return 0;
            }
            List<Integer> line = memory().rows.get(row);
            line.remove(from);
            return make(5, row, element, 0, place(line, to));
        }

        int undo(int number, boolean along) {
            Step step = find(number);
            if (step == null || !step.active) {
                return 0;
            }
            step.active = false;
            List<Integer> impossible = memory().impossible;
            if (!along && !impossible.isEmpty()) {
                step.active = true;
                return -impossible.get(0);
            }
            taken = new ArrayList<>();
            while (!impossible.isEmpty()) {
                taken.add(impossible.get(0));
                find(impossible.get(0)).active = false;
                impossible = memory().impossible;
            }
            return 1;
        }

        int redo(int number) {
            Step step = find(number);
            if (step == null || step.active) {
                return 0;
            }
            step.active = true;
            List<Integer> impossible = memory().impossible;
            if (!impossible.isEmpty()) {
                step.active = false;
                return -impossible.get(0);
            }
            return 1;
        }

        int dependsOn(int a, int b) {
            Step later = find(a);
            Step earlier = find(b);
            if (later == null || earlier == null || !earlier.active || b >= a) {
                return 0;
            }
            List<Step> before = activeOnes();
            before.removeIf(s -> s.number >= a || s.number == b);
            return new Replay(before).isImpossible(later) ? 1 : 0;
        }

        int latestActive() {
            int found = 0;
            for (Step step : activeOnes()) {
                found = step.number;
            }
            return found;
        }

        int undoLast() {
            int number = latestActive();
            if (number != 0) {
                find(number).active = false;
                taken = new ArrayList<>();
            }
            return number;
        }

        int redoNext() {
            int behind = latestActive();
            for (Step step : history) {
                if (step.number > behind && !step.active) {
                    return redo(step.number) == 1 ? step.number : 0;
                }
            }
            return 0;
        }

        int squash() {
            history.removeIf(s -> !s.active);
            return history.size();
        }

        int element(int row, int i) {
            if (row < 0 || row > 2) {
                return 0;
            }
            List<Integer> line = memory().rows.get(row);
            return i < 0 || i >= line.size() ? 0 : line.get(i);
        }
    }

    private static final class Run {
        final int name;
        final int[] mix;
        final Model model = new Model();
        final UndoMemory real = new UndoMemory();

        Run(int name) {
            this.name = name;
            this.mix = MIXES[name % MIXES.length];
        }

        void due(String what, long got, long want) {
            if (got != want) {
                wrong++;
                System.out.println("run " + name + ": " + what + " answered " + got + ", due is " + want);
            }
        }

        int kindOfCall() {
            int sum = 0;
            for (int weight : mix) {
                sum += weight;
            }
            int left = pick(sum);
            int kind = 0;
            while (left >= mix[kind]) {
                left -= mix[kind];
                kind++;
            }
            return kind;
        }

        /** A number of a step, mostly one that is there, and at times one that is not. */
        int someStep() {
            return pick(model.latest + 3) - 1;
        }

        int someNode() {
            List<Integer> nodes = new ArrayList<>(model.memory().parents.keySet());
            if (nodes.isEmpty() || pick(10) == 0) {
                return pick(2) == 0 ? 0 : someStep();
            }
            return nodes.get(pick(nodes.size()));
        }

        int someIndex(int row) {
            int length = row < 0 || row > 2 ? 0 : model.memory().rows.get(row).size();
            return pick(length + 3) - 1;
        }

        void call() {
            int row = pick(20) == 0 ? pick(5) - 1 : pick(3);
            int a;
            int b;
            int c;
            switch (kindOfCall()) {
                case 0: a = pick(10) - 1; b = pick(1000); due("set", real.set(a, b), model.set(a, b)); break;
                case 1: a = pick(6) - 1; b = pick(9) - 4; due("add", real.add(a, b * (1L << 62)), model.add(a, b * (1L << 62))); break;
                case 2: a = someIndex(row); b = pick(1000); due("insert", real.insert(row, a, b), model.insert(row, a, b)); break;
                case 3: a = someIndex(row); due("remove", real.remove(row, a), model.remove(row, a)); break;
                case 4: a = someIndex(row); b = someIndex(row); due("move", real.move(row, a, b), model.move(row, a, b)); break;
                case 5: a = someNode(); due("node", real.node(a), model.make(6, 0, a, 0, List.of())); break;
                case 6: a = someNode(); due("unlink", real.unlink(a), model.make(7, a, 0, 0, List.of())); break;
                case 7: a = someNode(); b = someNode(); due("link", real.link(a, b), model.make(8, a, b, 0, List.of())); break;
                case 8: a = someStep(); c = pick(2); due("undo", real.undo(a, c == 0), model.undo(a, c == 0)); break;
                case 9: a = someStep(); due("redo", real.redo(a), model.redo(a)); break;
                case 10: due("undoLast", real.undoLast(), model.undoLast()); break;
                case 11: due("redoNext", real.redoNext(), model.redoNext()); break;
                default: due("squash", real.squash(), model.squash()); break;
            }
        }

        void compareAll() {
            Replay memory = model.memory();
            due("impossible steps", 0, memory.impossible.size());
            due("count 0", real.count(0), model.history.size());
            due("count 1", real.count(1), model.latest);
            due("count 2", real.count(2), model.activeOnes().size());
            for (int c = 0; c < 8; c++) {
                due("cell " + c, real.cell(c), memory.cells[c]);
            }
            for (int k = 0; k < 4; k++) {
                due("counter " + k, real.counter(k), memory.counters[k]);
            }
            for (int row = 0; row < 3; row++) {
                List<Integer> line = memory.rows.get(row);
                due("length", real.length(row), line.size());
                for (int i = 0; i < line.size(); i++) {
                    due("element", real.element(row, i), line.get(i));
                }
            }
            for (int i = 0; i <= model.taken.size(); i++) {
                due("taken", real.taken(i), i < model.taken.size() ? model.taken.get(i) : NONE);
            }
            compareSteps(memory);
        }

        void compareSteps(Replay memory) {
            for (int number = -1; number <= model.latest + 1; number++) {
                Step step = model.find(number);
                due("active", real.active(number), step == null ? NONE : step.active ? 1 : 0);
                due("value", real.value(number), step == null || step.kind != 3 ? 0 : step.amount);
                due("parent", real.parent(number), memory.parents.getOrDefault(number, NONE));
            }
            for (int i = 0; i < model.history.size(); i++) {
                Step step = model.history.get(i);
                due("history 0", real.history(i, 0), step.number);
                due("history 1", real.history(i, 1), step.kind);
                due("history 2", real.history(i, 2), step.target);
            }
        }

        void compareDependence() {
            for (int i = 0; i < 20; i++) {
                int a = someStep();
                int b = someStep();
                due("dependsOn " + a + " " + b, real.dependsOn(a, b) ? 1 : 0, model.dependsOn(a, b));
            }
        }
    }

    public static void main(String[] args) {
        for (int name = 0; name < RUNS && wrong == 0; name++) {
            seed = name;
            Run run = new Run(name);
            for (int i = 0; i < CALLS && wrong == 0; i++) {
                run.call();
                if (i % 7 == 0) {
                    run.compareAll();
                    run.compareDependence();
                }
            }
        }
        System.out.println(wrong == 0 ? "the model agrees" : wrong + " answers are not as due");
        if (wrong != 0) {
            System.exit(1);
        }
    }
}
