import java.util.ArrayList;
import java.util.List;
import java.util.Map;
import java.util.Random;
import java.util.TreeMap;

/**
 * Random runs with fixed seeds, each answer compared with a model that works in another way: it
 * reads favourites off a log of paths, and undoes selectively by following single characters.
 */
public final class EditTreeModel {
    private static final int RUNS = 3000;
    /** The document promises 512 calls; a step makes up to ten. */
    private static final int CALLS = 500;
    private static final String[] CODES = {"OUT_OF_RANGE", "NO_SUCH_NODE", "TREE_FULL", "TEXT_FULL",
            "CONFLICT", "WRONG_NODE", "NONE"};
    private static final Map<String, Integer> met = new TreeMap<>();

    /** A character that is told apart from its equals. */
    private static final class Sign {
        final int code;

        Sign(int code) {
            this.code = code;
        }
    }

    private static final class State {
        int number;
        State parent;
        List<Sign> text = new ArrayList<>();
        boolean deletion;
        int position;
        List<Sign> string = new ArrayList<>();
        int time;

        List<State> path() {
            List<State> path = parent == null ? new ArrayList<>() : parent.path();
            path.add(this);
            return path;
        }
    }

    private static final class Model {
        final TreeMap<Integer, State> states = new TreeMap<>();
        final State[] marks = new State[5];
        final List<Integer> clip = new ArrayList<>();
        /** The paths of the current nodes, and pairs of a parent and the favourite it fell back to. */
        final List<List<State>> log = new ArrayList<>();
        State current = new State();
        int given = 0;
        int clock = 0;

        Model() {
            states.put(0, current);
        }

        int go(State state) {
            clock++;
            state.time = clock;
            current = state;
            log.add(state.path());
            return state.number;
        }

        int append(int ch) {
            if (!(32 <= ch && ch <= 126)) return -1;
            if (clip.size() == 6) return -4;
            clip.add(ch);
            return clip.size();
        }

        int clearClip() {
            int size = clip.size();
            clip.clear();
            return size;
        }

        int add(boolean deletion, int position, List<Sign> string) {
            if (current.text.size() + string.size() > 40 && !deletion) return -4;
            if (states.size() == 24) return -3;
            State state = new State();
            state.number = ++given;
            state.parent = current;
            state.deletion = deletion;
            state.position = position;
            state.string = new ArrayList<>(string);
            state.text = new ArrayList<>(current.text);
            if (deletion) {
                state.text.subList(position, position + string.size()).clear();
            } else {
                state.text.addAll(position, string);
            }
            states.put(state.number, state);
            return go(state);
        }

        int insert(int position) {
            if (clip.isEmpty()) return -7;
            if (position < 0 || position > current.text.size()) return -1;
            List<Sign> string = new ArrayList<>();
            for (int code : clip) string.add(new Sign(code));
            int answer = add(false, position, string);
            if (answer > 0) clip.clear();
            return answer;
        }

        int delete(int position, int length) {
            if (position < 0 || length < 1 || length > 6) return -1;
            if ((long) position + length > current.text.size()) return -1;
            return add(true, position, current.text.subList(position, position + length));
        }

        int undo() {
            return current.parent == null ? -7 : go(current.parent);
        }

        int redo() {
            State favourite = favourite(current);
            return favourite == null ? -7 : go(favourite);
        }

        int jump(int node) {
            int steps = distance(current.number, node);
            if (steps >= 0) go(states.get(node));
            return steps;
        }

        List<State> children(State parent) {
            List<State> children = new ArrayList<>();
            for (State state : states.values()) if (state.parent == parent) children.add(state);
            return children;
        }

        State favourite(State state) {
            for (int i = log.size() - 1; i >= 0; i--) {
                int at = log.get(i).indexOf(state);
                if (at >= 0 && at + 1 < log.get(i).size()) return log.get(i).get(at + 1);
            }
            return null;
        }

        /** The later edits, applied to a row in which null stands for the gap of a deletion. */
        int follow(State undone, boolean wantsConflict) {
            List<Sign> row = new ArrayList<>(undone.text);
            if (undone.deletion) row.add(undone.position, null);
            List<State> path = current.path();
            for (State later : path.subList(path.indexOf(undone) + 1, path.size())) {
                int from = place(row, later.position);
                if (later.deletion) {
                    for (Sign sign : later.string) {
                        boolean own = !undone.deletion && undone.string.contains(sign);
                        if (row.get(from) != sign || own) return wantsConflict ? later.number : -5;
                        row.remove(from);
                    }
                } else {
                    row.addAll(from, later.string);
                    if (isSplit(undone, row)) return wantsConflict ? later.number : -5;
                }
            }
            if (wantsConflict) return -7;
            if (!undone.deletion) return add(true, row.indexOf(undone.string.get(0)), undone.string);
            List<Sign> again = new ArrayList<>();
            for (Sign sign : undone.string) again.add(new Sign(sign.code));
            return add(false, row.indexOf(null), again);
        }

        /** Behind the gap, if the position is where the gap is. */
        int place(List<Sign> row, int position) {
            int gap = row.indexOf(null);
            return gap >= 0 && gap <= position ? position + 1 : position;
        }

        boolean isSplit(State undone, List<Sign> row) {
            if (undone.deletion) return false;
            int first = row.indexOf(undone.string.get(0));
            int last = row.indexOf(undone.string.get(undone.string.size() - 1));
            return last - first != undone.string.size() - 1;
        }

        int undoEdit(int node, boolean wantsConflict) {
            State undone = states.get(node);
            if (undone == null) return -2;
            if (node == 0 || !current.path().contains(undone)) return -6;
            return follow(undone, wantsConflict);
        }

        int lengthOf(int node) {
            return states.containsKey(node) ? states.get(node).text.size() : -2;
        }

        int characterOf(int node, int index) {
            State state = states.get(node);
            if (state == null) return -2;
            return index < 0 || index >= state.text.size() ? -1 : state.text.get(index).code;
        }

        int editOf(int node) {
            State state = states.get(node);
            if (state == null) return -2;
            if (node == 0) return -6;
            return 1000 * state.position + 10 * state.string.size() + (state.deletion ? 1 : 0);
        }

        int parentOf(int node) {
            if (!states.containsKey(node)) return -2;
            return node == 0 ? -6 : states.get(node).parent.number;
        }

        int childOf(int node, int index) {
            if (!states.containsKey(node)) return -2;
            List<State> children = children(states.get(node));
            return index < 0 || index >= children.size() ? -7 : children.get(index).number;
        }

        int favouriteOf(int node) {
            if (!states.containsKey(node)) return -2;
            State favourite = favourite(states.get(node));
            return favourite == null ? -7 : favourite.number;
        }

        int timeOf(int node) {
            return states.containsKey(node) ? states.get(node).time : -2;
        }

        int commonAncestor(int first, int second) {
            if (!states.containsKey(first) || !states.containsKey(second)) return -2;
            List<State> both = states.get(first).path();
            both.retainAll(states.get(second).path());
            return both.get(both.size() - 1).number;
        }

        int distance(int first, int second) {
            int common = commonAncestor(first, second);
            if (common < 0) return common;
            return states.get(first).path().size() + states.get(second).path().size()
                    - 2 * states.get(common).path().size();
        }

        int marksOn(State state) {
            int count = 0;
            for (State marked : marks) if (marked == state) count++;
            return count;
        }

        int setMark(int mark, int node) {
            if (mark < 0 || mark > 4) return -1;
            if (!states.containsKey(node)) return -2;
            marks[mark] = states.get(node);
            return marksOn(marks[mark]);
        }

        int clearMark(int mark) {
            if (mark < 0 || mark > 4) return -1;
            if (marks[mark] == null) return -7;
            int number = marks[mark].number;
            marks[mark] = null;
            return number;
        }

        int goToMark(int mark) {
            if (mark < 0 || mark > 4) return -1;
            return marks[mark] == null ? -7 : go(marks[mark]);
        }

        boolean canGo(State state) {
            return state.number != 0 && state != current && children(state).isEmpty() && marksOn(state) == 0;
        }

        int oldestLeaf() {
            State oldest = null;
            for (State state : states.descendingMap().values()) {
                if (canGo(state) && (oldest == null || state.time <= oldest.time)) oldest = state;
            }
            return oldest == null ? -7 : oldest.number;
        }

        int forget(int node) {
            State state = states.get(node);
            if (state == null) return -2;
            if (!canGo(state)) return -6;
            boolean favoured = favourite(state.parent) == state;
            states.remove(node);
            List<State> left = children(state.parent);
            if (left.isEmpty()) {
                cutLog(state);
            } else if (favoured) {
                log.add(List.of(state.parent, left.get(left.size() - 1)));
            }
            return states.size();
        }

        /** A parent without children has no favourite: nothing of its children stays in the log. */
        void cutLog(State gone) {
            for (int i = 0; i < log.size(); i++) {
                int at = log.get(i).indexOf(gone.parent);
                if (at >= 0) log.set(i, log.get(i).subList(0, at + 1));
            }
        }

        long digest() {
            List<Integer> values = new ArrayList<>();
            values.add(states.size());
            for (State state : states.values()) {
                values.add(state.number);
                values.add(state.number == 0 ? 0 : state.parent.number);
                values.add(state.number == 0 ? 0 : editOf(state.number));
                values.add(state.text.size());
                for (Sign sign : state.text) values.add(sign.code);
                values.add(favouriteOf(state.number));
                values.add(state.time);
            }
            values.add(current.number);
            values.add(oldestLeaf());
            for (State marked : marks) values.add(marked == null ? -7 : marked.number);
            values.add(clock);
            values.add(clip.size());
            values.addAll(clip);
            long hash = 1847;
            for (int value : values) hash = 31 * hash + value;
            return hash;
        }
    }

    // ---- random calls

    private final Random random;
    private final int habit;
    private final EditTree tree = new EditTree();
    private final Model model = new Model();
    private String called = "";
    private int calls = 0;

    private EditTreeModel(int seed) {
        random = new Random(seed);
        habit = seed % 6;
    }

    private int below(int bound) {
        return random.nextInt(bound);
    }

    private int node() {
        if (below(25) == 0) return new int[] {-1, Integer.MIN_VALUE, Integer.MAX_VALUE, 24, 600}[below(5)];
        if (below(4) == 0) return below(model.given + 2);
        List<Integer> numbers = new ArrayList<>(model.states.keySet());
        return numbers.get(below(numbers.size()));
    }

    private int onPath() {
        if (below(6) == 0) return node();
        List<State> path = model.current.path();
        return path.get(below(path.size())).number;
    }

    private int index(int size) {
        if (below(30) == 0) return new int[] {Integer.MIN_VALUE, Integer.MAX_VALUE, -2}[below(3)];
        return below(12) == 0 ? size + 1 : below(size + 2) - (below(10) == 0 ? 1 : 0);
    }

    private int mark() {
        return below(8) == 0 ? new int[] {-1, 5, Integer.MAX_VALUE, Integer.MIN_VALUE}[below(4)] : below(5);
    }

    private int character() {
        if (below(25) == 0) return new int[] {31, 127, -1, 0, Integer.MAX_VALUE, Integer.MIN_VALUE, 65633}[below(7)];
        return below(10) == 0 ? (below(2) == 0 ? 32 : 126) : 97 + below(3);
    }

    /** What is called often differs from run to run, so that trees grow deep, wide, full or small. */
    private boolean step() {
        int kind = below(100);
        if (kind < 30) return edit();
        if (kind < 45) return move();
        if (kind < 58) return selective();
        if (kind < 58 + new int[] {2, 2, 10, 20, 4, 6}[habit]) return forgetting();
        return below(3) == 0 ? marking() : asking();
    }

    private boolean edit() {
        if (below(4) == 0 && habit != 4) {
            int position = index(model.current.text.size());
            int length = below(10) == 0 ? new int[] {0, 7, -1, Integer.MAX_VALUE}[below(4)] : 1 + below(6);
            return same("delete(" + position + ", " + length + ")", tree.delete(position, length), model.delete(position, length));
        }
        if (below(30) == 0) return same("clearClip()", tree.clearClip(), model.clearClip());
        int letters = habit == 4 || habit == 5 ? 5 + below(3) : below(5);
        for (int i = 0; i < letters; i++) {
            int ch = character();
            if (!same("append(" + ch + ")", tree.append(ch), model.append(ch))) return false;
        }
        int position = index(model.current.text.size());
        return same("insert(" + position + ")", tree.insert(position), model.insert(position));
    }

    private boolean move() {
        int node = node();
        int mark = mark();
        switch (below(habit == 1 ? 6 : 4)) {
            case 0: return same("redo()", tree.redo(), model.redo());
            case 1: return same("goToMark(" + mark + ")", tree.goToMark(mark), model.goToMark(mark));
            case 2: return same("jump(" + node + ")", tree.jump(node), model.jump(node));
            default: return same("undo()", tree.undo(), model.undo());
        }
    }

    private boolean selective() {
        int node = onPath();
        return same("conflictWith(" + node + ")", tree.conflictWith(node), model.undoEdit(node, true))
                && same("undoEdit(" + node + ")", tree.undoEdit(node), model.undoEdit(node, false));
    }

    private boolean forgetting() {
        int node = below(2) == 0 ? node() : model.oldestLeaf();
        return same("forget(" + node + ")", tree.forget(node), model.forget(node));
    }

    private boolean marking() {
        int mark = mark();
        int node = node();
        return below(3) == 0
                ? same("clearMark(" + mark + ")", tree.clearMark(mark), model.clearMark(mark))
                : same("setMark(" + mark + ", " + node + ")", tree.setMark(mark, node), model.setMark(mark, node));
    }

    private boolean asking() {
        int node = node();
        int other = node();
        int index = index(Math.max(0, model.lengthOf(node)));
        int child = index(3);
        switch (below(12)) {
            case 0: return same("current()", tree.current(), model.current.number);
            case 1: return same("nodeCount()", tree.nodeCount(), model.states.size());
            case 2: return same("lengthOf(" + node + ")", tree.lengthOf(node), model.lengthOf(node));
            case 3: return same("characterOf(" + node + ", " + index + ")", tree.characterOf(node, index), model.characterOf(node, index));
            case 4: return same("editOf(" + node + ")", tree.editOf(node), model.editOf(node));
            case 5: return same("parentOf(" + node + ")", tree.parentOf(node), model.parentOf(node));
            case 6: return same("childOf(" + node + ", " + child + ")", tree.childOf(node, child), model.childOf(node, child));
            case 7: return same("favouriteOf(" + node + ")", tree.favouriteOf(node), model.favouriteOf(node));
            case 8: return same("timeOf(" + node + ")", tree.timeOf(node), model.timeOf(node));
            case 9: return same("commonAncestor(" + node + ", " + other + ")", tree.commonAncestor(node, other), model.commonAncestor(node, other));
            case 10: return same("distance(" + node + ", " + other + ")", tree.distance(node, other), model.distance(node, other));
            default: return same("oldestLeaf()", tree.oldestLeaf(), model.oldestLeaf());
        }
    }

    private boolean same(String call, long got, long want) {
        calls++;
        called = call + " answered " + got + ", due is " + want;
        String outcome = want < 0 && want >= -CODES.length ? CODES[(int) (-1 - want)] : "a value";
        met.merge(call.substring(0, call.indexOf('(')) + " " + outcome, 1, Integer::sum);
        return got == want;
    }

    private boolean agrees() {
        while (calls < CALLS) {
            if (!step()) return false;
            String before = called;
            if (below(3) == 0 && !same("digest()", tree.digest(), model.digest())) {
                called = called + ", after " + before;
                return false;
            }
        }
        return true;
    }

    /** A random run proves nothing about an answer that it never met. */
    private static int countUnmet() {
        String[] outcomes = {"append OUT_OF_RANGE", "append TEXT_FULL", "append a value",
            "clearClip a value", "insert NONE", "insert OUT_OF_RANGE", "insert TEXT_FULL",
            "insert TREE_FULL", "insert a value", "delete OUT_OF_RANGE", "delete TREE_FULL",
            "delete a value", "undo NONE", "undo a value", "redo NONE", "redo a value",
            "jump NO_SUCH_NODE", "jump a value", "undoEdit NO_SUCH_NODE", "undoEdit WRONG_NODE",
            "undoEdit CONFLICT", "undoEdit TEXT_FULL", "undoEdit TREE_FULL", "undoEdit a value",
            "conflictWith NO_SUCH_NODE", "conflictWith WRONG_NODE", "conflictWith NONE",
            "conflictWith a value", "characterOf OUT_OF_RANGE", "characterOf NO_SUCH_NODE",
            "childOf NONE", "favouriteOf NONE", "commonAncestor NO_SUCH_NODE", "setMark OUT_OF_RANGE",
            "setMark NO_SUCH_NODE", "clearMark NONE", "clearMark OUT_OF_RANGE", "goToMark NONE",
            "goToMark OUT_OF_RANGE", "goToMark a value", "oldestLeaf NONE", "oldestLeaf a value",
            "forget NO_SUCH_NODE", "forget WRONG_NODE", "forget a value"};
        int unmet = 0;
        for (String outcome : outcomes) {
            if (met.getOrDefault(outcome, 0) < 100) {
                unmet++;
                System.out.println("met too seldom: " + outcome);
            }
        }
        return unmet;
    }

    public static void main(String[] args) {
        int wrong = 0;
        for (int seed = 0; seed < RUNS && wrong < 10; seed++) {
            EditTreeModel run = new EditTreeModel(seed);
            if (!run.agrees()) {
                wrong++;
                System.out.println("seed " + seed + ": " + run.called);
            }
        }
        if (wrong + countUnmet() > 0) System.exit(1);
    }
}
