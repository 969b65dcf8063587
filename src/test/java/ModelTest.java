import java.util.ArrayList;
import java.util.HashMap;
import java.util.List;
import java.util.Map;

/**
 * Long runs of calls, the same ones each time, on the class and on a slow model that follows the
 * document word by word: it keeps no memory, but replays all active steps for each question.
 */
public final class ModelTest {
    private static final int RUNS = 2400;
    /** Calls after which an object is only asked, so that some are left for the questions. */
    private static final int LONGEST = 440;
    private static final int MOST_CALLS = 512;
    private static final int NONE = -1;

    /** Mixes of calls: how often each of the kinds of steps and of calls comes. */
    private static final int[][] MIXES = {
        {4, 4, 4, 3, 4, 4, 2, 6, 6, 4, 2, 2, 1},
        {1, 1, 9, 3, 9, 0, 0, 0, 6, 5, 1, 1, 0},
        {0, 0, 0, 0, 0, 6, 4, 14, 6, 5, 2, 2, 0},
        {2, 2, 6, 1, 6, 6, 2, 8, 1, 1, 1, 1, 0},
        {1, 1, 3, 3, 3, 3, 3, 3, 12, 12, 3, 3, 1},
        {0, 0, 20, 1, 2, 0, 0, 0, 3, 2, 1, 1, 1},
    };

    private static int wrong = 0;
    private static long seed;

    /** A plain row of numbers that look mixed, from a fixed beginning. */
    private static int pick(int bound) {
        seed = seed * 6364136223846793005L + 1442695040888963407L;
        return (int) ((seed >>> 33) % bound);
    }

    private static final class Step {
        int number;
        int kind;
        int target;
        int named;
        long amount;
        List<Integer> place = List.of();
        boolean active = true;
    }

    private static final class Replay {
        final int[] cells = new int[8];
        final long[] counters = new long[4];
        final List<List<Integer>> rows = List.of(new ArrayList<>(), new ArrayList<>(), new ArrayList<>());
        final Map<Integer, Boolean> inserted = new HashMap<>();
        final Map<Integer, Integer> parents = new HashMap<>();
        final List<Integer> impossible = new ArrayList<>();

        Replay(List<Step> steps) {
            for (Step step : steps) {
                if (isImpossible(step)) {
                    impossible.add(step.number);
                } else {
                    perform(step);
                }
            }
        }

        boolean isImpossible(Step s) {
            boolean lacksNode = !parents.containsKey(s.target);
            boolean lacksParent = s.named != 0 && !parents.containsKey(s.named);
            switch (s.kind) {
                case 4: case 5: return !inserted.containsKey(s.named);
                case 6: return lacksParent;
                case 7: return lacksNode;
                case 8: return lacksNode || lacksParent || isBelowOrAt(s.named, s.target);
                default: return false;
            }
        }

        boolean isBelowOrAt(int low, int high) {
            return low == high || (parents.containsKey(low) && isBelowOrAt(parents.get(low), high));
        }

        void perform(Step s) {
            switch (s.kind) {
                case 1: cells[s.target] = (int) s.amount; break;
                case 2: counters[s.target] += s.amount; break;
                case 3: inserted.put(s.number, true); put(rows.get(s.target), s.number, s.place); break;
                case 4: rows.get(s.target).remove((Object) s.named); break;
                case 5:
                    if (rows.get(s.target).remove((Object) s.named)) {
                        put(rows.get(s.target), s.named, s.place);
                    }
                    break;
                case 6: parents.put(s.number, s.named); break;
                case 7: parents.put(s.target, NONE); break;
                default: parents.put(s.target, s.named); break;
            }
        }

        static void put(List<Integer> row, int element, List<Integer> place) {
            for (int told : place) {
                if (row.contains(told)) {
                    row.add(row.indexOf(told) + 1, element);
                    return;
                }
            }
            row.add(0, element);
        }
    }

    private static final class Model {
        final List<Step> history = new ArrayList<>();
        int latest = 0;
        List<Integer> taken = new ArrayList<>();

        List<Step> activeOnes() {
            List<Step> found = new ArrayList<>();
            for (Step step : history) {
                if (step.active) {
                    found.add(step);
                }
            }
            return found;
        }

        Replay memory() {
            return new Replay(activeOnes());
        }

        Step find(int number) {
            for (Step step : history) {
                if (step.number == number) {
                    return step;
                }
            }
            return null;
        }

        int make(int kind, int target, int named, long amount, List<Integer> place) {
            if (history.size() >= 200) {
                return 0;
            }
            Step s = new Step();
            s.number = latest + 1;
            s.kind = kind;
            s.target = target;
            s.named = named;
            s.amount = amount;
            s.place = place;
            if (memory().isImpossible(s)) {
                return 0;
            }
            latest++;
            history.add(s);
            return latest;
        }

        static List<Integer> place(List<Integer> row, int at) {
            List<Integer> told = new ArrayList<>();
            for (int i = at - 1; i >= 0; i--) {
                told.add(row.get(i));
            }
            return told;
        }

        int set(int cell, int v) {
            return cell < 0 || cell > 7 ? 0 : make(1, cell, 0, v, List.of());
        }

        int add(int counter, long d) {
            return counter < 0 || counter > 3 ? 0 : make(2, counter, 0, d, List.of());
        }

        int insert(int row, int at, int v) {
            if (row < 0 || row > 2) {
                return 0;
            }
            long inserts = history.stream().filter(s -> s.kind == 3 && s.target == row).count();
            List<Integer> line = memory().rows.get(row);
            if (at < 0 || at > line.size() || inserts >= 40) {
                return 0;
            }
            return make(3, row, 0, v, place(line, at));
        }

        int remove(int row, int at) {
            int element = element(row, at);
            return element == 0 ? 0 : make(4, row, element, 0, List.of());
        }

        int move(int row, int from, int to) {
            int element = element(row, from);
            if (element == 0 || element(row, to) == 0) {
                return 0;
            }
            List<Integer> line = memory().rows.get(row);
            line.remove(from);
            return make(5, row, element, 0, place(line, to));
        }

        int undo(int number, boolean along) {
            Step step = find(number);
            if (step == null || !step.active) {
                return 0;
            }
            step.active = false;
            List<Integer> impossible = memory().impossible;
            if (!along && !impossible.isEmpty()) {
                step.active = true;
                return -impossible.get(0);
            }
            taken = new ArrayList<>();
            while (!impossible.isEmpty()) {
                taken.add(impossible.get(0));
                find(impossible.get(0)).active = false;
                impossible = memory().impossible;
            }
            return 1;
        }

        int redo(int number) {
            Step step = find(number);
            if (step == null || step.active) {
                return 0;
            }
            step.active = true;
            List<Integer> impossible = memory().impossible;
            if (!impossible.isEmpty()) {
                step.active = false;
                return -impossible.get(0);
            }
            return 1;
        }

        int dependsOn(int a, int b) {
            Step later = find(a);
            Step earlier = find(b);
            if (later == null || earlier == null || !earlier.active || b >= a) {
                return 0;
            }
            List<Step> before = activeOnes();
            before.removeIf(s -> s.number >= a || s.number == b);
            return new Replay(before).isImpossible(later) ? 1 : 0;
        }

        int latestActive() {
            int found = 0;
            for (Step step : activeOnes()) {
                found = step.number;
            }
            return found;
        }

        int undoLast() {
            int number = latestActive();
            if (number != 0) {
                find(number).active = false;
                taken = new ArrayList<>();
            }
            return number;
        }

        int redoNext() {
            int behind = latestActive();
            for (Step step : history) {
                if (step.number > behind && !step.active) {
                    return redo(step.number) == 1 ? step.number : 0;
                }
            }
            return 0;
        }

        int squash() {
            history.removeIf(s -> !s.active);
            return history.size();
        }

        int element(int row, int i) {
            if (row < 0 || row > 2) {
                return 0;
            }
            List<Integer> line = memory().rows.get(row);
            return i < 0 || i >= line.size() ? 0 : line.get(i);
        }
    }

    private interface Call {
        long on(Counted x);
    }

    private static final class Question {
        final String what;
        final Call call;
        final long want;

        Question(String what, Call call, long want) {
            this.what = what;
            this.call = call;
            this.want = want;
        }
    }

    private static final class Run {
        final int name;
        final int[] mix;
        final Model model = new Model();
        final Counted real = new Counted();
        final List<Call> made = new ArrayList<>();
        final List<Question> questions = new ArrayList<>();

        Run(int name) {
            this.name = name;
            this.mix = MIXES[name % MIXES.length];
        }

        void due(String what, long got, long want) {
            if (got != want) {
                wrong++;
                System.out.println("run " + name + ", behind " + made.size() + " calls: " + what
                    + " answered " + got + ", due is " + want);
            }
        }

        void make(String what, Call call, long want) {
            due(what, call.on(real), want);
            made.add(call);
        }

        void ask(String what, Call call, long want) {
            questions.add(new Question(what, call, want));
        }

        int kindOfCall() {
            int sum = 0;
            for (int weight : mix) {
                sum += weight;
            }
            int left = pick(sum);
            int kind = 0;
            while (left >= mix[kind]) {
                left -= mix[kind];
                kind++;
            }
            return kind;
        }

        /** A number of a step, mostly one that is there, and at times one that is not. */
        int someStep() {
            return pick(model.latest + 3) - 1;
        }

        int someNode() {
            List<Integer> nodes = new ArrayList<>(model.memory().parents.keySet());
            if (nodes.isEmpty() || pick(10) == 0) {
                return pick(2) == 0 ? 0 : someStep();
            }
            return nodes.get(pick(nodes.size()));
        }

        int someRow() {
            return pick(20) == 0 ? pick(5) - 1 : pick(3);
        }

        int someIndex(int row) {
            int length = row < 0 || row > 2 ? 0 : model.memory().rows.get(row).size();
            return pick(length + 3) - 1;
        }

        void call() {
            int kind = kindOfCall();
            if (kind < 2) {
                callOnNumbers(kind);
            } else if (kind < 5) {
                callOnARow(kind, someRow());
            } else if (kind < 8) {
                callOnNodes(kind);
            } else {
                callOnSteps(kind);
            }
        }

        void callOnNumbers(int kind) {
            int at = kind == 0 ? pick(10) - 1 : pick(6) - 1;
            int v = pick(1000) - 500;
            long d = (pick(9) - 4) * (1L << 62) + v;
            if (kind == 0) {
                make("set", x -> x.set(at, v), model.set(at, v));
            } else {
                make("add", x -> x.add(at, d), model.add(at, d));
            }
        }

        void callOnARow(int kind, int row) {
            int at = someIndex(row);
            int to = someIndex(row);
            int v = pick(1000);
            switch (kind) {
                case 2: make("insert", x -> x.insert(row, at, v), model.insert(row, at, v)); break;
                case 3: make("remove", x -> x.remove(row, at), model.remove(row, at)); break;
                default: make("move", x -> x.move(row, at, to), model.move(row, at, to)); break;
            }
        }

        void callOnNodes(int kind) {
            int node = someNode();
            int parent = someNode();
            switch (kind) {
                case 5: make("node", x -> x.node(parent), model.make(6, 0, parent, 0, List.of())); break;
                case 6: make("unlink", x -> x.unlink(node), model.make(7, node, 0, 0, List.of())); break;
                default: make("link", x -> x.link(node, parent), model.make(8, node, parent, 0, List.of())); break;
            }
        }

        void callOnSteps(int kind) {
            int step = someStep();
            boolean along = pick(2) == 0;
            switch (kind) {
                case 8: make("undo", x -> x.undo(step, along), model.undo(step, along)); break;
                case 9: make("redo", x -> x.redo(step), model.redo(step)); break;
                case 10: make("undoLast", Counted::undoLast, model.undoLast()); break;
                case 11: make("redoNext", Counted::redoNext, model.redoNext()); break;
                default: make("squash", Counted::squash, model.squash()); break;
            }
        }

        void askForTheMemory(Replay memory) {
            due("impossible steps", 0, memory.impossible.size());
            for (int c = 0; c < 8; c++) {
                int asked = c;
                ask("cell " + c, x -> x.cell(asked), memory.cells[c]);
            }
            for (int k = 0; k < 4; k++) {
                int asked = k;
                ask("counter " + k, x -> x.counter(asked), memory.counters[k]);
            }
            for (int r = 0; r < 3; r++) {
                int row = r;
                List<Integer> line = memory.rows.get(row);
                ask("length", x -> x.length(row), line.size());
                for (int i = 0; i <= line.size(); i++) {
                    int at = i;
                    ask("element", x -> x.element(row, at), i < line.size() ? line.get(i) : 0);
                }
            }
            for (int n = -1; n <= model.latest + 1; n++) {
                int node = n;
                ask("parent", x -> x.parent(node), memory.parents.getOrDefault(node, NONE));
            }
        }

        void askForTheHistory() {
            ask("count 0", x -> x.count(0), model.history.size());
            ask("count 1", x -> x.count(1), model.latest);
            ask("count 2", x -> x.count(2), model.activeOnes().size());
            for (int n = -1; n <= model.latest + 1; n++) {
                int number = n;
                Step step = model.find(number);
                ask("active", x -> x.active(number), step == null ? NONE : step.active ? 1 : 0);
                ask("value", x -> x.value(number), step == null || step.kind != 3 ? 0 : step.amount);
            }
            for (int i = 0; i < model.history.size(); i++) {
                int at = i;
                Step step = model.history.get(i);
                ask("history 0", x -> x.history(at, 0), step.number);
                ask("history 1", x -> x.history(at, 1), step.kind);
                ask("history 2", x -> x.history(at, 2), step.target);
            }
        }

        void askForDependence() {
            for (int i = 0; i <= model.taken.size(); i++) {
                int at = i;
                ask("taken", x -> x.taken(at), i < model.taken.size() ? model.taken.get(i) : NONE);
            }
            for (int i = 0; i < 100; i++) {
                int a = someStep();
                int b = someStep();
                ask("dependsOn " + a + " " + b, x -> x.dependsOn(a, b), model.dependsOn(a, b));
            }
        }

        /** Asks as many questions of an object as it has calls left, and the rest of another one like it. */
        void answer() {
            int left = 0;
            Counted x = null;
            for (Question question : questions) {
                if (left == 0) {
                    left = MOST_CALLS - made.size();
                    x = new Counted();
                    for (Call call : made) {
                        call.on(x);
                    }
                }
                due(question.what, question.call.on(x), question.want);
                left--;
            }
        }
    }

    public static void main(String[] args) {
        for (int name = 0; name < RUNS && wrong == 0; name++) {
            seed = name;
            Run run = new Run(name);
            int calls = 1 + pick(LONGEST);
            for (int i = 0; i < calls && wrong == 0; i++) {
                run.call();
            }
            run.askForTheMemory(run.model.memory());
            run.askForTheHistory();
            run.askForDependence();
            run.answer();
        }
        System.out.println(wrong == 0 ? "the model agrees" : wrong + " answers are not as due");
        if (wrong != 0) {
            System.exit(1);
        }
    }
}
