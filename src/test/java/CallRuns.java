import java.util.ArrayList;
import java.util.HashSet;
import java.util.List;
import java.util.Map;
import java.util.Set;
import java.util.TreeMap;

/**
 * What the tests by runs of calls have in common. A run is made on a new object and written as in
 * the document, each call with the answer that is due: "append(97) = 1; insert(0) = OUT_OF_RANGE".
 *
 * After a refused call the whole object is looked at through all other calls, and compared with an
 * object to which the refused call was not made. Both are made anew for each look, by the calls
 * that have changed the first one, so that no object is used for more than 512 calls.
 */
abstract class CallRuns {
    static final int MIN = Integer.MIN_VALUE;
    static final int MAX = Integer.MAX_VALUE;
    private static final int CALL_LIMIT = 512;
    private static final List<String> CODES = List.of("OUT_OF_RANGE", "NO_SUCH_NODE", "TREE_FULL",
            "TEXT_FULL", "CONFLICT", "WRONG_NODE", "NONE");
    private static final Set<String> ASKING = Set.of("conflictWith", "current", "nodeCount", "lengthOf",
            "characterOf", "editOf", "parentOf", "childOf", "favouriteOf", "timeOf", "commonAncestor",
            "distance", "oldestLeaf", "digest");
    private static final Set<String> titles = new HashSet<>();
    private static int refusals = 0;
    private static int wrong = 0;

    // ---- running

    static void run(String title, String rows) {
        if (!titles.add(title)) {
            throw new IllegalStateException("two runs are named " + title);
        }
        Run run = new Run(title);
        for (String row : rows.split(";")) {
            if (!row.isBlank()) {
                run.row(row.trim());
            }
        }
        checkCount(title, run.calls);
    }

    static void due(String what, long got, long want) {
        if (got != want) {
            wrong++;
            System.out.println(what + " answered " + got + ", due is " + want);
        }
    }

    static void end() {
        System.out.println(titles.size() + " runs, " + refusals + " refused calls looked at");
        if (wrong > 0) {
            System.out.println(wrong + " wrong answers");
            System.exit(1);
        }
    }

    /** What an object answers after its 512th call is free, so no test may rest on it. */
    private static void checkCount(String what, int calls) {
        if (calls > CALL_LIMIT) {
            throw new IllegalStateException(what + " makes " + calls + " calls");
        }
    }

    private static long answerOf(String text) {
        return CODES.contains(text) ? -1 - CODES.indexOf(text) : Long.parseLong(text);
    }

    private static final class Run {
        private final String title;
        private final EditTree tree = new EditTree();
        private final List<Call> changes = new ArrayList<>();
        private int calls = 0;
        private int lastNumber = 0;
        /** Null when a change has come since. */
        private List<List<Call>> looks = null;
        private List<Long> before = null;

        Run(String title) {
            this.title = title;
        }

        void row(String row) {
            String[] sides = row.split("=");
            Call call = Call.of(sides[0].trim());
            long got = call.on(tree);
            calls++;
            due(title + ": " + sides[0].trim(), got, answerOf(sides[1].trim()));
            if (got < 0 && !call.name.equals("digest")) {
                lookAfterRefusal(call);
            } else if (ASKING.contains(call.name)) {
                lookAfterQuestion(call);
            } else {
                changes.add(call);
                lastNumber = call.makesNode() ? (int) got : lastNumber;
                looks = null;
            }
        }

        private void lookAfterRefusal(Call call) {
            if (looks == null) {
                looks = allLooks(changes, lastNumber);
                before = seen(changes, null, looks);
            }
            compare(title + ": after " + call, looks, before, seen(changes, call, looks));
            refusals++;
        }

        private void lookAfterQuestion(Call call) {
            EditTree asked = made(changes);
            call.on(asked);
            due(title + ": after " + call + ", digest()", asked.digest(), made(changes).digest());
        }
    }

    private record Call(String name, int first, int second) {
        static Call of(String text) {
            int open = text.indexOf('(');
            String[] values = text.substring(open + 1, text.indexOf(')')).split(",");
            int first = values[0].isBlank() ? 0 : Integer.parseInt(values[0].trim());
            int second = values.length < 2 ? 0 : Integer.parseInt(values[1].trim());
            return new Call(text.substring(0, open).trim(), first, second);
        }

        @Override
        public String toString() {
            return name + "(" + first + ", " + second + ")";
        }

        boolean makesNode() {
            return name.equals("insert") || name.equals("delete") || name.equals("undoEdit");
        }

        long on(EditTree tree) {
            switch (name) {
                case "append": return tree.append(first);
                case "clearClip": return tree.clearClip();
                case "insert": return tree.insert(first);
                case "delete": return tree.delete(first, second);
                case "undo": return tree.undo();
                case "redo": return tree.redo();
                case "jump": return tree.jump(first);
                case "undoEdit": return tree.undoEdit(first);
                case "conflictWith": return tree.conflictWith(first);
                case "current": return tree.current();
                case "nodeCount": return tree.nodeCount();
                case "lengthOf": return tree.lengthOf(first);
                case "characterOf": return tree.characterOf(first, second);
                default: return onMore(tree);
            }
        }

        private long onMore(EditTree tree) {
            switch (name) {
                case "editOf": return tree.editOf(first);
                case "parentOf": return tree.parentOf(first);
                case "childOf": return tree.childOf(first, second);
                case "favouriteOf": return tree.favouriteOf(first);
                case "timeOf": return tree.timeOf(first);
                case "commonAncestor": return tree.commonAncestor(first, second);
                case "distance": return tree.distance(first, second);
                case "setMark": return tree.setMark(first, second);
                case "clearMark": return tree.clearMark(first);
                case "goToMark": return tree.goToMark(first);
                case "oldestLeaf": return tree.oldestLeaf();
                case "forget": return tree.forget(first);
                case "digest": return tree.digest();
                default: throw new IllegalStateException("no call " + name);
            }
        }
    }

    // ---- looking

    /** Answers to all looks, each on a new object to which the changes and the refused call were made. */
    private static List<Long> seen(List<Call> changes, Call refused, List<List<Call>> looks) {
        List<Long> answers = new ArrayList<>();
        for (List<Call> look : looks) {
            EditTree tree = made(changes);
            if (refused != null) {
                refused.on(tree);
            }
            for (Call call : look) {
                answers.add(call.on(tree));
            }
            checkCount("a look", changes.size() + 1 + look.size());
        }
        return answers;
    }

    private static EditTree made(List<Call> changes) {
        EditTree tree = new EditTree();
        for (Call call : changes) {
            call.on(tree);
        }
        return tree;
    }

    /** Tells the first difference alone: one fault may show in hundreds of answers. */
    private static void compare(String what, List<List<Call>> looks, List<Long> before, List<Long> after) {
        int at = 0;
        for (List<Call> look : looks) {
            for (Call call : look) {
                if (!after.get(at).equals(before.get(at))) {
                    due(what + ", " + call, after.get(at), before.get(at));
                    return;
                }
                at++;
            }
        }
    }

    private static List<List<Call>> allLooks(List<Call> changes, int lastNumber) {
        Map<Integer, Integer> lengths = new TreeMap<>();
        for (int node = 0; node <= lastNumber; node++) {
            // A new object for each, as there may be more numbers than calls are left.
            int length = made(changes).lengthOf(node);
            if (length >= 0) {
                lengths.put(node, length);
            }
        }
        List<Call> asking = asking(lengths, lastNumber);
        List<List<Call>> looks = new ArrayList<>();
        int room = CALL_LIMIT - 1 - changes.size();
        for (int from = 0; from < asking.size(); from += room) {
            looks.add(asking.subList(from, Math.min(from + room, asking.size())));
        }
        addNextCalls(looks, lengths);
        return looks;
    }

    private static List<Call> asking(Map<Integer, Integer> lengths, int lastNumber) {
        List<Call> asking = new ArrayList<>();
        for (String name : List.of("current", "nodeCount", "oldestLeaf", "digest")) {
            asking.add(new Call(name, 0, 0));
        }
        for (int node = -1; node <= lastNumber + 1; node++) {
            for (String name : List.of("lengthOf", "editOf", "parentOf", "favouriteOf", "timeOf", "conflictWith")) {
                asking.add(new Call(name, node, 0));
            }
        }
        for (int node : lengths.keySet()) {
            for (int i = 0; i <= lengths.get(node); i++) {
                asking.add(new Call("characterOf", node, i));
            }
            for (int i = 0; i < lengths.size(); i++) {
                asking.add(new Call("childOf", node, i));
            }
            for (int other : lengths.keySet()) {
                asking.add(new Call("commonAncestor", node, other));
                asking.add(new Call("distance", node, other));
            }
        }
        return asking;
    }

    /** What is hidden, such as the clip, the clock and the next number, shows in what comes next. */
    private static void addNextCalls(List<List<Call>> looks, Map<Integer, Integer> lengths) {
        Call digest = new Call("digest", 0, 0);
        for (String name : List.of("clearClip", "insert", "undo", "redo")) {
            looks.add(List.of(new Call(name, 0, 0), digest));
        }
        looks.add(List.of(new Call("append", 120, 0), new Call("insert", 0, 0), digest));
        looks.add(List.of(new Call("clearClip", 0, 0), new Call("append", 120, 0), new Call("insert", 0, 0), digest));
        looks.add(List.of(new Call("delete", 0, 1), digest));
        for (int mark = 0; mark < 5; mark++) {
            looks.add(List.of(new Call("clearMark", mark, 0), digest));
            looks.add(List.of(new Call("goToMark", mark, 0), digest));
            looks.add(List.of(new Call("setMark", mark, 0), digest));
        }
        for (int node : lengths.keySet()) {
            for (String name : List.of("jump", "undoEdit", "forget")) {
                looks.add(List.of(new Call(name, node, 0), digest));
            }
        }
    }

    // ---- pieces of runs

    static String call(String name, int... values) {
        StringBuilder text = new StringBuilder(name).append('(');
        for (int i = 0; i < values.length; i++) {
            text.append(i == 0 ? "" : ", ").append(values[i]);
        }
        return text.append(')').toString();
    }

    static String refused(String code, String name, int... values) {
        return call(name, values) + " = " + code + ";";
    }

    static String times(int count, String rows) {
        return rows.repeat(count);
    }

    static String type(String characters) {
        StringBuilder text = new StringBuilder();
        for (int i = 0; i < characters.length(); i++) {
            text.append(call("append", characters.charAt(i))).append(" = ").append(i + 1).append(';');
        }
        return text.toString();
    }

    static String shows(int node, String characters) {
        int length = characters.length();
        StringBuilder text = new StringBuilder(call("lengthOf", node) + " = " + length + ";");
        for (int i = 0; i < length; i++) {
            text.append(call("characterOf", node, i)).append(" = ").append((int) characters.charAt(i)).append(';');
        }
        return text + refused("OUT_OF_RANGE", "characterOf", node, length);
    }

    /** The clock itself is not told, but the current node gets its next reading. */
    static String clockIs(int reading, int current) {
        return call("jump", current) + " = 0;" + call("timeOf", current) + " = " + (reading + 1) + ";";
    }

    /** Insertions of "i" in front of the text, for the nodes from first to last, each below the other. */
    static String inserts(int first, int last) {
        StringBuilder text = new StringBuilder();
        for (int number = first; number <= last; number++) {
            text.append("append(105) = 1; insert(0) = ").append(number).append(';');
        }
        return text.toString();
    }

    /** 24 nodes, each the child of the one before; the last is current. */
    static String deepTree() {
        return inserts(1, 23);
    }

    /** The root, current, with so many children of a text of 1. */
    static String children(int count) {
        StringBuilder text = new StringBuilder();
        for (int number = 1; number <= count; number++) {
            text.append("append(97) = 1; insert(0) = ").append(number).append("; undo() = 0;");
        }
        return text.toString();
    }

    static String wideTree() {
        return children(23);
    }

    /** The root alone, after so many nodes were made and forgotten. */
    static String recycled(int count) {
        StringBuilder text = new StringBuilder();
        for (int number = 1; number <= count; number++) {
            text.append("append(97) = 1; insert(0) = ").append(number).append("; undo() = 0; forget(")
                    .append(number).append(") = 1;");
        }
        return text.toString();
    }

    static String upFrom(int number) {
        StringBuilder text = new StringBuilder();
        for (int parent = number - 1; parent >= 0; parent--) {
            text.append("undo() = ").append(parent).append(';');
        }
        return text.toString();
    }

    static String downTo(int last) {
        StringBuilder text = new StringBuilder();
        for (int number = 1; number <= last; number++) {
            text.append("redo() = ").append(number).append(';');
        }
        return text.toString();
    }

    static String forgetDown(int last) {
        StringBuilder text = new StringBuilder();
        for (int number = last; number >= 1; number--) {
            text.append(call("forget", number)).append(" = ").append(number).append(';');
        }
        return text.toString();
    }

    /** Node 2 has the text "abcdefgh" and is current. */
    static String eight() {
        return type("abcdef") + "insert(0) = 1;" + type("gh") + "insert(6) = 2;";
    }

    /** Node 6 has "abcdef" six times and is current. */
    static String text36() {
        StringBuilder text = new StringBuilder();
        for (int number = 1; number <= 6; number++) {
            text.append(type("abcdef")).append(call("insert", 6 * (number - 1))).append(" = ")
                    .append(number).append(';');
        }
        return text.toString();
    }

    /** Node 7 has a text of 40 characters and is current. */
    static String text40() {
        return text36() + type("wxyz") + "insert(36) = 7;";
    }

    /** Deletions and insertions in turn, from a text of 40 on, so that it has 39 and 40 characters. */
    static String turns(int first, int last) {
        StringBuilder text = new StringBuilder();
        for (int number = first; number <= last; number++) {
            boolean deletes = (number - first) % 2 == 0;
            text.append(deletes ? "delete(39, 1) = " : "append(46) = 1; insert(39) = ").append(number).append(';');
        }
        return text.toString();
    }

    /** 24 nodes on one path; 23 is current and has 40 characters, 22 deletes the 40th. */
    static String fullTextInFullTree() {
        return text40() + turns(8, 23);
    }

    /** 0 has the children 1 and 5, 1 has 2 and 3, 3 has 4; 5 is current and the clock is at 7. */
    static String branches() {
        return type("a") + "insert(0) = 1;" + type("b") + "insert(0) = 2; undo() = 1;" + type("c")
                + "insert(0) = 3;" + type("d") + "insert(0) = 4; jump(0) = 3;" + type("e") + "insert(0) = 5;";
    }
}
