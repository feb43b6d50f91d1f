/** The history tree of a text editor, with selective undo. */
public final class EditTree {
    public static final int OUT_OF_RANGE = -1;
    public static final int NO_SUCH_NODE = -2;
    public static final int TREE_FULL = -3;
    public static final int TEXT_FULL = -4;
    public static final int CONFLICT = -5;
    public static final int WRONG_NODE = -6;
    public static final int NONE = -7;

    private static final int NODE_LIMIT = 24;
    private static final int TEXT_LIMIT = 40;
    private static final int CLIP_LIMIT = 6;
    private static final int DELETION_LIMIT = 6;
    private static final int MARK_COUNT = 5;
    private static final int LOWEST_CHARACTER = 32;
    private static final int HIGHEST_CHARACTER = 126;
    private static final long DIGEST_START = 1847L;
    private static final long DIGEST_FACTOR = 31L;

    /**
     * A state of the text and the edit that led to it. The string of an edit is not kept: an
     * inserted one stands in this text, a deleted one in the text of the parent, and a parent
     * outlives its children.
     */
    private static final class Node {
        private final char[] text = new char[TEXT_LIMIT];
        private int textLength = 0;
        private int number = 0;
        private int time = 0;
        /** Null for the root alone. */
        private Node parent = null;
        /** Null exactly when the node has no children. */
        private Node favourite = null;
        private int editPosition = 0;
        private int editLength = 0;
        private boolean deletion = false;

        private Node() {
        }
    }

    /**
     * All nodes are made at the start and used again. The first nodeTotal of them are in the
     * tree, in ascending order of their numbers, with the root in front; the rest are free.
     */
    private final Node[] nodes = new Node[NODE_LIMIT];
    private int nodeTotal = 1;
    private int lastNumber = 0;
    private Node currentNode;
    private int clock = 0;
    private final char[] clip = new char[CLIP_LIMIT];
    private int clipLength = 0;
    private final Node[] marks = new Node[MARK_COUNT];

    public EditTree() {
        Node root = new Node();
        nodes[0] = root;
        for (int i = 1; i < NODE_LIMIT; i++) {
            nodes[i] = new Node();
        }
        currentNode = root;
    }

    // ---- edits

    public int append(int ch) {
        if (ch < LOWEST_CHARACTER || ch > HIGHEST_CHARACTER) {
            return OUT_OF_RANGE;
        }
        if (clipLength >= CLIP_LIMIT) {
            return TEXT_FULL;
        }
        clip[clipLength] = (char) ch;
        clipLength++;
        return clipLength;
    }

    public int clearClip() {
        int before = clipLength;
        clipLength = 0;
        return before;
    }

    public int insert(int position) {
        if (clipLength == 0) {
            return NONE;
        }
        if (position < 0 || position > currentNode.textLength) {
            return OUT_OF_RANGE;
        }
        if (!hasRoomFor(clipLength)) {
            return TEXT_FULL;
        }
        if (isTreeFull()) {
            return TREE_FULL;
        }
        addInsertion(position, clip, 0, clipLength);
        clipLength = 0;
        return currentNode.number;
    }

    public int delete(int position, int length) {
        if (position < 0 || length < 1 || length > DELETION_LIMIT) {
            return OUT_OF_RANGE;
        }
        // The sum position + length could overflow; this difference cannot.
        if (position > currentNode.textLength - length) {
            return OUT_OF_RANGE;
        }
        if (isTreeFull()) {
            return TREE_FULL;
        }
        addDeletion(position, length);
        return currentNode.number;
    }

    public int undo() {
        Node parent = currentNode.parent;
        if (parent == null) {
            return NONE;
        }
        makeCurrent(parent);
        return parent.number;
    }

    public int redo() {
        Node favourite = currentNode.favourite;
        if (favourite == null) {
            return NONE;
        }
        makeCurrent(favourite);
        return favourite.number;
    }

    public int jump(int node) {
        Node target = find(node);
        if (target == null) {
            return NO_SUCH_NODE;
        }
        int steps = stepsBetween(currentNode, target);
        makeCurrent(target);
        return steps;
    }

    public int undoEdit(int node) {
        Node undone = find(node);
        if (undone == null) {
            return NO_SUCH_NODE;
        }
        Node before = undone.parent;
        if (before == null || !isAncestor(undone, currentNode)) {
            return WRONG_NODE;
        }
        int place = placeNow(undone);
        if (place < 0) {
            return CONFLICT;
        }
        if (undone.deletion && !hasRoomFor(undone.editLength)) {
            return TEXT_FULL;
        }
        if (isTreeFull()) {
            return TREE_FULL;
        }
        if (undone.deletion) {
            addInsertion(place, before.text, undone.editPosition, undone.editLength);
        } else {
            addDeletion(place, undone.editLength);
        }
        return currentNode.number;
    }

    public int conflictWith(int node) {
        Node undone = find(node);
        if (undone == null) {
            return NO_SUCH_NODE;
        }
        if (undone.parent == null || !isAncestor(undone, currentNode)) {
            return WRONG_NODE;
        }
        return numberOrNone(firstConflict(undone));
    }

    // ---- nodes

    public int current() {
        return currentNode.number;
    }

    public int nodeCount() {
        return nodeTotal;
    }

    public int lengthOf(int node) {
        Node found = find(node);
        return found == null ? NO_SUCH_NODE : found.textLength;
    }

    public int characterOf(int node, int index) {
        Node found = find(node);
        if (found == null) {
            return NO_SUCH_NODE;
        }
        if (index < 0 || index >= found.textLength) {
            return OUT_OF_RANGE;
        }
        return found.text[index];
    }

    public int editOf(int node) {
        Node found = find(node);
        if (found == null) {
            return NO_SUCH_NODE;
        }
        return found.parent == null ? WRONG_NODE : editCode(found);
    }

    public int parentOf(int node) {
        Node found = find(node);
        if (found == null) {
            return NO_SUCH_NODE;
        }
        Node parent = found.parent;
        return parent == null ? WRONG_NODE : parent.number;
    }

    public int childOf(int node, int index) {
        Node found = find(node);
        if (found == null) {
            return NO_SUCH_NODE;
        }
        int seen = 0;
        for (int i = 0; i < nodeTotal; i++) {
            if (nodes[i].parent == found) {
                if (seen == index) {
                    return nodes[i].number;
                }
                seen++;
            }
        }
        return NONE;
    }

    public int favouriteOf(int node) {
        Node found = find(node);
        return found == null ? NO_SUCH_NODE : numberOrNone(found.favourite);
    }

    public int timeOf(int node) {
        Node found = find(node);
        return found == null ? NO_SUCH_NODE : found.time;
    }

    public int commonAncestor(int first, int second) {
        Node one = find(first);
        Node other = find(second);
        if (one == null || other == null) {
            return NO_SUCH_NODE;
        }
        return lowestCommon(one, other).number;
    }

    public int distance(int first, int second) {
        Node one = find(first);
        Node other = find(second);
        if (one == null || other == null) {
            return NO_SUCH_NODE;
        }
        return stepsBetween(one, other);
    }

    // ---- marks, forgetting

    public int setMark(int mark, int node) {
        if (!isMark(mark)) {
            return OUT_OF_RANGE;
        }
        Node found = find(node);
        if (found == null) {
            return NO_SUCH_NODE;
        }
        marks[mark] = found;
        return marksOn(found);
    }

    public int clearMark(int mark) {
        if (!isMark(mark)) {
            return OUT_OF_RANGE;
        }
        int before = numberOrNone(marks[mark]);
        marks[mark] = null;
        return before;
    }

    public int goToMark(int mark) {
        if (!isMark(mark)) {
            return OUT_OF_RANGE;
        }
        Node marked = marks[mark];
        if (marked == null) {
            return NONE;
        }
        makeCurrent(marked);
        return marked.number;
    }

    public int oldestLeaf() {
        Node oldest = null;
        for (int i = 0; i < nodeTotal; i++) {
            Node node = nodes[i];
            // Ascending numbers: of equal times the first one met has the lowest number.
            if (isForgettable(node) && (oldest == null || node.time < oldest.time)) {
                oldest = node;
            }
        }
        return numberOrNone(oldest);
    }

    public int forget(int node) {
        Node found = find(node);
        if (found == null) {
            return NO_SUCH_NODE;
        }
        if (!isForgettable(found)) {
            return WRONG_NODE;
        }
        Node parent = found.parent;
        takeOut(found);
        if (parent != null && parent.favourite == found) {
            parent.favourite = newestChild(parent);
        }
        return nodeTotal;
    }

    public long digest() {
        long hash = mixed(DIGEST_START, nodeTotal);
        for (int i = 0; i < nodeTotal; i++) {
            hash = mixedNode(hash, nodes[i]);
        }
        hash = mixed(hash, currentNode.number);
        hash = mixed(hash, oldestLeaf());
        for (int i = 0; i < MARK_COUNT; i++) {
            hash = mixed(hash, numberOrNone(marks[i]));
        }
        hash = mixed(hash, clock);
        return mixedText(hash, clip, clipLength);
    }

    // ---- finding

    private Node find(int number) {
        for (int i = 0; i < nodeTotal; i++) {
            if (nodes[i].number == number) {
                return nodes[i];
            }
        }
        return null;
    }

    private Node newestChild(Node parent) {
        for (int i = nodeTotal - 1; i >= 0; i--) {
            if (nodes[i].parent == parent) {
                return nodes[i];
            }
        }
        return null;
    }

    private static boolean isAncestor(Node ancestor, Node node) {
        for (Node at = node; at != null; at = at.parent) {
            if (at == ancestor) {
                return true;
            }
        }
        return false;
    }

    private static Node lowestCommon(Node first, Node second) {
        Node at = first;
        while (at.parent != null && !isAncestor(at, second)) {
            at = at.parent;
        }
        return at;
    }

    private static int depthOf(Node node) {
        int depth = 0;
        for (Node at = node.parent; at != null; at = at.parent) {
            depth++;
        }
        return depth;
    }

    private static int stepsBetween(Node first, Node second) {
        Node common = lowestCommon(first, second);
        return depthOf(first) + depthOf(second) - 2 * depthOf(common);
    }

    private static int numberOrNone(Node node) {
        return node == null ? NONE : node.number;
    }

    private static int editCode(Node node) {
        return 1000 * node.editPosition + 10 * node.editLength + (node.deletion ? 1 : 0);
    }

    // ---- changing the tree

    private boolean isTreeFull() {
        return nodeTotal >= NODE_LIMIT;
    }

    private boolean hasRoomFor(int length) {
        return length <= TEXT_LIMIT - currentNode.textLength;
    }

    private void addInsertion(int position, char[] source, int from, int length) {
        Node base = currentNode;
        Node made = addChild(position, length);
        int behind = base.textLength - position;
        System.arraycopy(base.text, 0, made.text, 0, position);
        System.arraycopy(source, from, made.text, position, length);
        System.arraycopy(base.text, position, made.text, position + length, behind);
        made.textLength = base.textLength + length;
        made.deletion = false;
        makeCurrent(made);
    }

    private void addDeletion(int position, int length) {
        Node base = currentNode;
        Node made = addChild(position, length);
        int behind = base.textLength - position - length;
        System.arraycopy(base.text, 0, made.text, 0, position);
        System.arraycopy(base.text, position + length, made.text, position, behind);
        made.textLength = base.textLength - length;
        made.deletion = true;
        makeCurrent(made);
    }

    /** The caller has seen that the tree is not full. */
    private Node addChild(int position, int length) {
        Node made = nodes[nodeTotal];
        nodeTotal++;
        lastNumber++;
        made.number = lastNumber;
        made.parent = currentNode;
        made.favourite = null;
        made.editPosition = position;
        made.editLength = length;
        return made;
    }

    private void makeCurrent(Node node) {
        clock++;
        node.time = clock;
        currentNode = node;
        for (Node at = node; at.parent != null; at = at.parent) {
            at.parent.favourite = at;
        }
    }

    /** Moves a node behind the others, where the free ones are, and keeps their order. */
    private void takeOut(Node gone) {
        int kept = 0;
        for (int i = 0; i < nodeTotal; i++) {
            Node node = nodes[i];
            if (node != gone) {
                nodes[kept] = node;
                kept++;
            }
        }
        nodeTotal--;
        nodes[nodeTotal] = gone;
    }

    // ---- selective undo

    /*
     * The later edits on the path of the current node are met by going from favourite child to
     * favourite child: the path of the current node is always the one remembered last.
     */

    /** The first later node whose edit conflicts, or null. */
    private Node firstConflict(Node undone) {
        int place = undone.editPosition;
        for (Node at = undone; at != currentNode && at.favourite != null; at = at.favourite) {
            place = shifted(undone, place, at.favourite);
            if (place < 0) {
                return at.favourite;
            }
        }
        return null;
    }

    /** Where the edit is to be undone in the current text, or CONFLICT. */
    private int placeNow(Node undone) {
        int place = undone.editPosition;
        for (Node at = undone; at != currentNode && at.favourite != null; at = at.favourite) {
            place = shifted(undone, place, at.favourite);
            if (place < 0) {
                return CONFLICT;
            }
        }
        return place;
    }

    private static int shifted(Node undone, int place, Node later) {
        return undone.deletion
                ? shiftedGap(place, later)
                : shiftedString(place, undone.editLength, later);
    }

    /** Where an inserted string, length characters from place on, stands after a later edit. */
    private static int shiftedString(int place, int length, Node later) {
        if (later.editPosition >= place + length) {
            return place;
        }
        if (later.deletion) {
            boolean before = later.editPosition + later.editLength <= place;
            return before ? place - later.editLength : CONFLICT;
        }
        return later.editPosition <= place ? place + later.editLength : CONFLICT;
    }

    /** Where the gap that a deletion left at place lies after a later edit. */
    private static int shiftedGap(int place, Node later) {
        if (later.editPosition >= place) {
            return place;
        }
        if (later.deletion) {
            boolean before = later.editPosition + later.editLength <= place;
            return before ? place - later.editLength : CONFLICT;
        }
        return place + later.editLength;
    }

    // ---- marks

    private static boolean isMark(int mark) {
        return mark >= 0 && mark < MARK_COUNT;
    }

    private int marksOn(Node node) {
        int found = 0;
        for (int i = 0; i < MARK_COUNT; i++) {
            if (marks[i] == node) {
                found++;
            }
        }
        return found;
    }

    private boolean isForgettable(Node node) {
        return node.parent != null
                && node != currentNode
                && node.favourite == null
                && marksOn(node) == 0;
    }

    // ---- digest

    private static long mixed(long hash, long value) {
        return DIGEST_FACTOR * hash + value;
    }

    private static long mixedText(long hash, char[] text, int length) {
        long result = mixed(hash, length);
        for (int i = 0; i < length && i < text.length; i++) {
            result = mixed(result, text[i]);
        }
        return result;
    }

    private static long mixedNode(long hash, Node node) {
        Node parent = node.parent;
        long result = mixed(hash, node.number);
        result = mixed(result, parent == null ? 0 : parent.number);
        result = mixed(result, parent == null ? 0 : editCode(node));
        result = mixedText(result, node.text, node.textLength);
        result = mixed(result, numberOrNone(node.favourite));
        return mixed(result, node.time);
    }
}
