import java.math.BigInteger;
import java.util.ArrayList;
import java.util.Arrays;
import java.util.List;

/**
 * A test of its own for each sentence of the document that names a boundary case. The title tells
 * the promise, or the rule of the description that several promises lean on.
 */
public final class EditTreeBoundaries extends CallRuns {
    public static void main(String[] args) {
        descriptionUse();
        descriptionNodes();
        descriptionChildren();
        descriptionTime();
        promise1NewObject();
        promise2Append();
        promise3ClearClip();
        promise4InsertPositions();
        promise4InsertFull();
        promise4InsertFirstError();
        promise5DeleteRanges();
        promise5DeleteFull();
        promise6Undo();
        promise7Redo();
        promise8Jump();
        promise9UndoEditNodes();
        promise9UndoEditOfInsertions();
        promise9UndoEditOfDeletions();
        promise9UndoEditInOrder();
        promise9UndoEditFull();
        promise9UndoEditFirstError();
        promise10ConflictWith();
        promises11And12CurrentAndNodeCount();
        promise13LengthOf();
        promise14CharacterOf();
        promise15EditOf();
        promise16ParentOf();
        promise17ChildOf();
        promise18FavouriteOf();
        promise19TimeOf();
        promise20CommonAncestor();
        promise21Distance();
        promise22SetMark();
        promise23ClearMark();
        promise24GoToMark();
        promise25OldestLeaf();
        promise26Forget();
        promise27Digest();
        nodesThatDoNotExist();
        refusedEdits();
        refusedMoves();
        refusedQuestions();
        refusedMarksAndForgetting();
        refusedInFullTree();
        end();
    }

    // ---- the rules of the description

    private static void descriptionUse() {
        run("use: the 512th call is still answered", times(511, "jump(0) = 0;") + "timeOf(0) = 511");
        StringBuilder many = new StringBuilder(type("a") + "insert(0) = 1;");
        for (int number = 2; number <= 171; number++) {
            many.append("delete(0, 1) = ").append(number).append("; undo() = 1; forget(")
                    .append(number).append(") = 2;");
        }
        run("use: 512 calls, and a new number with every third", many.toString());
        run("use: 512 calls, all refused but the last", times(511, "undo() = NONE;") + "append(97) = 1");
    }

    private static void descriptionNodes() {
        run("nodes: the text of the root stays empty", type("abc") + "insert(0) = 1; delete(0, 3) = 2;"
                + "undoEdit(2) = 3; jump(0) = 3;" + shows(0, ""));
        run("nodes: at least the root is left", type("a") + "insert(0) = 1; undo() = 0; forget(1) = 1;"
                + "forget(0) = WRONG_NODE; nodeCount() = 1; lengthOf(0) = 0");
        run("nodes: position p is before the character with index p", type("abc") + "insert(0) = 1;"
                + type("X") + "insert(0) = 2;" + shows(2, "Xabc") + "undo() = 1;" + type("X")
                + "insert(1) = 3;" + shows(3, "aXbc") + "undo() = 1;" + type("X") + "insert(2) = 4;"
                + shows(4, "abXc") + "undo() = 1;" + type("X") + "insert(3) = 5;" + shows(5, "abcX"));
        run("nodes: a text of 40 characters stands, one of 41 does not", text40()
                + shows(7, "abcdefabcdefabcdefabcdefabcdefabcdefwxyz") + "append(97) = 1;"
                + "insert(0) = TEXT_FULL; lengthOf(7) = 40; nodeCount() = 8");
        run("nodes: the number of a forgotten node is not given again, though it was the greatest",
                type("a") + "insert(0) = 1; undo() = 0; forget(1) = 1;" + type("b")
                + "insert(0) = 2; undo() = 0; forget(2) = 1;" + type("c") + "insert(0) = 3;"
                + "lengthOf(1) = NO_SUCH_NODE; lengthOf(2) = NO_SUCH_NODE;" + shows(3, "c"));
        run("nodes: a refused call gives no number", type("a") + "insert(1) = OUT_OF_RANGE;"
                + "insert(0) = 1; insert(0) = NONE; delete(0, 2) = OUT_OF_RANGE; delete(0, 1) = 2;"
                + "undoEdit(1) = CONFLICT; undoEdit(3) = NO_SUCH_NODE; undoEdit(2) = 3");
        run("nodes: a refused call of a full tree gives no number", deepTree() + type("a")
                + "insert(0) = TREE_FULL; delete(0, 1) = TREE_FULL; undoEdit(23) = TREE_FULL;"
                + "undo() = 22; forget(23) = 23; insert(0) = 24");
        run("nodes: a tree of 24 stands deep", deepTree() + "nodeCount() = 24; distance(0, 23) = 23;"
                + type("a") + "insert(0) = TREE_FULL; nodeCount() = 24");
        run("nodes: a tree of 24 stands wide", wideTree() + "nodeCount() = 24; childOf(0, 22) = 23;"
                + "childOf(0, 23) = NONE;" + type("a") + "insert(0) = TREE_FULL; nodeCount() = 24");
        run("nodes: a full tree has room for one when one is forgotten", wideTree() + type("a")
                + "insert(0) = TREE_FULL; forget(12) = 23; insert(0) = 24; nodeCount() = 24;" + type("b")
                + "insert(0) = TREE_FULL; childOf(0, 22) = 24; childOf(0, 11) = 13");
        run("current node: a new node is below the current one and becomes current", type("a")
                + "insert(0) = 1; undo() = 0;" + type("b") + "insert(0) = 2; parentOf(2) = 0;"
                + "current() = 2; delete(0, 1) = 3; parentOf(3) = 2; current() = 3; undoEdit(3) = 4;"
                + "parentOf(4) = 3; current() = 4");
        run("current node: a node counts as its own ancestor", type("a") + "insert(0) = 1;"
                + "commonAncestor(1, 1) = 1; conflictWith(1) = NONE; undoEdit(1) = 2;" + shows(2, ""));
    }

    private static void descriptionChildren() {
        run("children: they are ordered by their numbers, not by visits", children(4) + "jump(3) = 1;"
                + "jump(1) = 2; jump(4) = 2; childOf(0, 0) = 1; childOf(0, 1) = 2; childOf(0, 2) = 3;"
                + "childOf(0, 3) = 4; childOf(0, 4) = NONE");
        run("children: the favourite was current most recently", children(3) + "favouriteOf(0) = 3;"
                + "jump(1) = 1; favouriteOf(0) = 1; undo() = 0; favouriteOf(0) = 1");
        run("children: the favourite was on the path of the current node most recently", branches()
                + "favouriteOf(0) = 5; jump(4) = 4; favouriteOf(0) = 1; favouriteOf(1) = 3;"
                + "favouriteOf(3) = 4; jump(2) = 3; favouriteOf(0) = 1; favouriteOf(1) = 2;"
                + "favouriteOf(3) = 4");
        run("children: a node above the current one keeps the favourite below it", branches()
                + "jump(2) = 3; jump(1) = 1; favouriteOf(1) = 2; jump(0) = 1; favouriteOf(0) = 1;"
                + "favouriteOf(1) = 2");
        run("children: a node without children has no favourite", type("a") + "favouriteOf(0) = NONE;"
                + "insert(0) = 1; favouriteOf(1) = NONE; undo() = 0; favouriteOf(0) = 1; forget(1) = 1;"
                + "favouriteOf(0) = NONE; redo() = NONE");
        run("children: when the favourite is forgotten, the child with the greatest number follows",
                children(4) + "jump(2) = 1; undo() = 0; favouriteOf(0) = 2; forget(2) = 4;"
                + "favouriteOf(0) = 4; redo() = 4");
        run("children: the follower is not the one visited last", children(4) + "jump(1) = 1;"
                + "jump(2) = 2; undo() = 0; forget(2) = 4; favouriteOf(0) = 4");
        run("children: the follower of the child with the greatest number", children(4)
                + "favouriteOf(0) = 4; forget(4) = 4; favouriteOf(0) = 3; forget(3) = 3;"
                + "favouriteOf(0) = 2; forget(2) = 2; favouriteOf(0) = 1; forget(1) = 1;"
                + "favouriteOf(0) = NONE");
        run("children: when another child is forgotten, the favourite stays", children(4)
                + "jump(2) = 1; undo() = 0; forget(4) = 4; favouriteOf(0) = 2; forget(1) = 3;"
                + "favouriteOf(0) = 2; forget(3) = 2; favouriteOf(0) = 2");
        run("children: a node that is forgotten below is no child of others", branches()
                + "forget(4) = 5; favouriteOf(3) = NONE; favouriteOf(1) = 3; favouriteOf(0) = 5");
    }

    private static void descriptionTime() {
        run("time: insert, if taken, makes the clock go on by 1", type("a")
                + "insert(1) = OUT_OF_RANGE; insert(0) = 1; timeOf(1) = 1; insert(0) = NONE;" + clockIs(1, 1));
        run("time: delete, if taken, makes the clock go on by 1", type("a") + "insert(0) = 1;"
                + "delete(0, 2) = OUT_OF_RANGE; delete(0, 1) = 2; timeOf(2) = 2;"
                + "delete(0, 1) = OUT_OF_RANGE;" + clockIs(2, 2));
        run("time: undo, if taken, makes the clock go on by 1", "undo() = NONE;" + type("a")
                + "insert(0) = 1; undo() = 0; timeOf(0) = 2; undo() = NONE;" + clockIs(2, 0));
        run("time: redo, if taken, makes the clock go on by 1", "redo() = NONE;" + type("a")
                + "insert(0) = 1; undo() = 0; redo() = 1; timeOf(1) = 3; redo() = NONE;" + clockIs(3, 1));
        run("time: jump, if taken, makes the clock go on by 1", "jump(1) = NO_SUCH_NODE;" + type("a")
                + "insert(0) = 1; jump(0) = 1; timeOf(0) = 2; jump(2) = NO_SUCH_NODE;" + clockIs(2, 0));
        run("time: undoEdit, if taken, makes the clock go on by 1", type("a") + "insert(0) = 1;"
                + "undoEdit(1) = 2; timeOf(2) = 2; undoEdit(1) = CONFLICT; undoEdit(0) = WRONG_NODE;"
                + clockIs(2, 2));
        run("time: goToMark, if taken, makes the clock go on by 1", type("a") + "insert(0) = 1;"
                + "setMark(3, 0) = 1; goToMark(2) = NONE; goToMark(3) = 0; timeOf(0) = 2;"
                + "goToMark(5) = OUT_OF_RANGE;" + clockIs(2, 0));
        run("time: no other call makes the clock go on", type("a") + "insert(0) = 1; undo() = 0;"
                + type("b") + "clearClip() = 1; setMark(0, 1) = 1; clearMark(0) = 1; forget(1) = 1;"
                + "conflictWith(0) = WRONG_NODE; current() = 0; nodeCount() = 1; lengthOf(0) = 0;"
                + "characterOf(0, 0) = OUT_OF_RANGE; editOf(0) = WRONG_NODE; parentOf(0) = WRONG_NODE;"
                + "childOf(0, 0) = NONE; favouriteOf(0) = NONE; timeOf(0) = 2; commonAncestor(0, 0) = 0;"
                + "distance(0, 0) = 0; oldestLeaf() = NONE;" + clockIs(2, 0));
        run("time: it is of the node made current, not of those on its path", branches()
                + "jump(4) = 4; timeOf(4) = 8; timeOf(3) = 4; timeOf(1) = 3; timeOf(0) = 6");
    }

    // ---- promises 1 to 3

    private static void promise1NewObject() {
        run("promise 1: the root is current, alone and without text", "current() = 0; nodeCount() = 1;"
                + shows(0, "") + "parentOf(0) = WRONG_NODE; editOf(0) = WRONG_NODE;"
                + "childOf(0, 0) = NONE; favouriteOf(0) = NONE");
        run("promise 1: the next number is 1", "lengthOf(1) = NO_SUCH_NODE;" + type("a") + "insert(0) = 1");
        run("promise 1: the clip is empty", "insert(0) = NONE; clearClip() = 0; append(97) = 1");
        run("promise 1: no mark is on a node", "clearMark(0) = NONE; clearMark(1) = NONE;"
                + "clearMark(2) = NONE; clearMark(3) = NONE; clearMark(4) = NONE; goToMark(0) = NONE;"
                + "goToMark(4) = NONE; setMark(2, 0) = 1");
        run("promise 1: the clock and the time of the root are 0", "timeOf(0) = 0;" + clockIs(0, 0));
        run("promise 1: nothing is there to undo, redo or forget", "undo() = NONE; redo() = NONE;"
                + "undoEdit(0) = WRONG_NODE; conflictWith(0) = WRONG_NODE; oldestLeaf() = NONE;"
                + "forget(0) = WRONG_NODE; delete(0, 1) = OUT_OF_RANGE");
        objectsShareNothing();
    }

    private static void objectsShareNothing() {
        EditTree older = new EditTree();
        older.append(97);
        older.insert(0);
        older.setMark(0, 1);
        older.append(98);
        due("promise 1: an object has nothing of an older one", new EditTree().digest(), hash(emptyTree(0)));
        due("promise 1: an object has nothing of an older one", older.nodeCount(), 2);
    }

    private static void promise2Append() {
        run("promise 2: 31 is the last below that is refused, 32 the first that is taken",
                "append(31) = OUT_OF_RANGE; append(32) = 1; insert(0) = 1;" + shows(1, " "));
        run("promise 2: 126 is the last that is taken, 127 the first above that is refused",
                "append(127) = OUT_OF_RANGE; append(126) = 1; insert(0) = 1;" + shows(1, "~"));
        run("promise 2: codes far outside are refused", "append(0) = OUT_OF_RANGE;"
                + "append(-1) = OUT_OF_RANGE; append(128) = OUT_OF_RANGE; append(255) = OUT_OF_RANGE;"
                + refused("OUT_OF_RANGE", "append", MIN) + refused("OUT_OF_RANGE", "append", MAX)
                + "clearClip() = 0");
        run("promise 2: a code is not cut down to a character", refused("OUT_OF_RANGE", "append", 256 + 97)
                + refused("OUT_OF_RANGE", "append", 65536 + 97)
                + refused("OUT_OF_RANGE", "append", 97 - 65536)
                + refused("OUT_OF_RANGE", "append", MIN + 97) + "clearClip() = 0");
        run("promise 2: the first character gives the length 1, the sixth 6", "append(97) = 1;"
                + "append(98) = 2; append(99) = 3; append(100) = 4; append(101) = 5; append(102) = 6;"
                + "insert(0) = 1;" + shows(1, "abcdef"));
        run("promise 2: a clip of 6 is full and stays as it was", type("abcdef")
                + "append(103) = TEXT_FULL; append(97) = TEXT_FULL; insert(0) = 1;" + shows(1, "abcdef"));
        run("promise 2: out of range comes before a full clip", type("abcdef")
                + "append(31) = OUT_OF_RANGE; append(127) = OUT_OF_RANGE; append(32) = TEXT_FULL;"
                + "append(126) = TEXT_FULL;" + refused("OUT_OF_RANGE", "append", MAX)
                + refused("OUT_OF_RANGE", "append", MIN));
        run("promise 2: a clip of 6 takes 6 again after clearClip", type("abcdef") + "clearClip() = 6;"
                + type("uvwxyz") + "append(97) = TEXT_FULL; insert(0) = 1;" + shows(1, "uvwxyz"));
        run("promise 2: a clip of 6 takes 6 again after insert", type("abcdef") + "insert(0) = 1;"
                + type("uvwxyz") + "append(97) = TEXT_FULL; insert(6) = 2;" + shows(2, "abcdefuvwxyz"));
        run("promise 2: neither a full text nor a full tree hinders it", fullTextInFullTree()
                + type("abcdef") + "append(97) = TEXT_FULL");
    }

    private static void promise3ClearClip() {
        run("promise 3: an empty clip gives 0", "clearClip() = 0; clearClip() = 0; insert(0) = NONE");
        run("promise 3: a clip of 1 gives 1", type("a") + "clearClip() = 1; clearClip() = 0");
        run("promise 3: a full clip gives 6", type("abcdef") + "clearClip() = 6; clearClip() = 0;"
                + "insert(0) = NONE");
        run("promise 3: what was in the clip does not come back", type("abcdef") + "clearClip() = 6;"
                + type("x") + "insert(0) = 1;" + shows(1, "x") + "clearClip() = 0");
        run("promise 3: a refused append and a refused insert are not counted", type("ab")
                + "append(127) = OUT_OF_RANGE; insert(1) = OUT_OF_RANGE; clearClip() = 2");
        run("promise 3: the tree stays as it was", type("ab") + "insert(0) = 1;" + type("c")
                + "clearClip() = 1; current() = 1; nodeCount() = 2;" + shows(1, "ab") + clockIs(1, 1));
    }

    // ---- promise 4

    private static void promise4InsertPositions() {
        run("promise 4: into the empty text at 0 alone", type("ab") + "insert(-1) = OUT_OF_RANGE;"
                + "insert(1) = OUT_OF_RANGE; insert(0) = 1;" + shows(1, "ab"));
        run("promise 4: 0 is the first position, -1 is refused", type("ab") + "insert(0) = 1;"
                + type("X") + "insert(-1) = OUT_OF_RANGE; insert(0) = 2;" + shows(2, "Xab"));
        run("promise 4: the length of the text is the last position, one more is refused", type("ab")
                + "insert(0) = 1;" + type("X") + "insert(3) = OUT_OF_RANGE; insert(2) = 2;"
                + shows(2, "abX") + type("Y") + "insert(4) = OUT_OF_RANGE; insert(3) = 3;"
                + shows(3, "abXY"));
        run("promise 4: the text is that of the current node, not the longest", type("abcd")
                + "insert(0) = 1; undo() = 0;" + type("X") + "insert(1) = OUT_OF_RANGE;"
                + "insert(4) = OUT_OF_RANGE; insert(0) = 2;" + shows(2, "X"));
        run("promise 4: positions far outside", type("ab") + "insert(0) = 1;" + type("X")
                + refused("OUT_OF_RANGE", "insert", MIN) + refused("OUT_OF_RANGE", "insert", MAX)
                + refused("OUT_OF_RANGE", "insert", MIN + 1) + "insert(40) = OUT_OF_RANGE");
        run("promise 4: into a text that was deleted whole", type("ab") + "insert(0) = 1;"
                + "delete(0, 2) = 2;" + type("X") + "insert(1) = OUT_OF_RANGE; insert(0) = 3;"
                + shows(3, "X"));
        run("promise 4: an empty clip cannot be inserted", "insert(0) = NONE;" + type("a")
                + "clearClip() = 1; insert(0) = NONE; nodeCount() = 1; current() = 0");
        run("promise 4: a clip of 1 and a clip of 6", type("a") + "insert(0) = 1; editOf(1) = 10;"
                + type("uvwxyz") + "insert(1) = 2; editOf(2) = 1060;" + shows(2, "auvwxyz"));
        run("promise 4: the clip is empty afterwards", type("ab") + "insert(0) = 1; insert(0) = NONE;"
                + "clearClip() = 0; append(97) = 1");
        run("promise 4: the clip stays when the position is refused", type("ab")
                + "insert(1) = OUT_OF_RANGE; insert(-1) = OUT_OF_RANGE; append(99) = 3; insert(0) = 1;"
                + shows(1, "abc"));
    }

    private static void promise4InsertFull() {
        run("promise 4: 39 and 1 make 40, which is taken", text40() + "delete(39, 1) = 8;" + type("X")
                + "insert(39) = 9; lengthOf(9) = 40; characterOf(9, 39) = 88");
        run("promise 4: 40 and 1 make 41, which is refused everywhere", text40() + type("X")
                + "insert(0) = TEXT_FULL; insert(20) = TEXT_FULL; insert(39) = TEXT_FULL;"
                + "insert(40) = TEXT_FULL");
        run("promise 4: 34 and 6 make 40, which is taken", text36() + "delete(0, 2) = 7;"
                + type("uvwxyz") + "insert(0) = 8; lengthOf(8) = 40;"
                + "characterOf(8, 0) = 117; characterOf(8, 39) = 102");
        run("promise 4: 35 and 6 make 41, which is refused", text36() + "delete(0, 1) = 7;"
                + type("uvwxyz") + "insert(0) = TEXT_FULL; insert(35) = TEXT_FULL; lengthOf(7) = 35;"
                + "clearClip() = 6;" + type("uvwxy") + "insert(0) = 8; lengthOf(8) = 40");
        run("promise 4: the clip stays when the text is full", text40() + type("XY")
                + "insert(0) = TEXT_FULL; delete(0, 2) = 8; insert(38) = 9; lengthOf(9) = 40;"
                + "characterOf(9, 38) = 88; characterOf(9, 39) = 89");
        run("promise 4: a full text elsewhere does not hinder it", text40() + type("X")
                + "insert(0) = TEXT_FULL; undo() = 6; insert(0) = 8; lengthOf(8) = 37;"
                + "jump(0) = 7;" + type("Y") + "insert(0) = 9;" + shows(9, "Y"));
        run("promise 4: the 24th node is taken, the 25th is refused", inserts(1, 22)
                + "nodeCount() = 23;" + type("a") + "insert(0) = 23; nodeCount() = 24;" + type("b")
                + "insert(0) = TREE_FULL; nodeCount() = 24; current() = 23; lengthOf(24) = NO_SUCH_NODE");
        run("promise 4: a full tree refuses below every node", wideTree() + type("a")
                + "insert(0) = TREE_FULL; jump(1) = 1; insert(0) = TREE_FULL; insert(1) = TREE_FULL;"
                + "jump(23) = 2; insert(0) = TREE_FULL");
        run("promise 4: the clip stays when the tree is full", deepTree() + type("ab")
                + "insert(0) = TREE_FULL; undo() = 22; forget(23) = 23; insert(22) = 24;"
                + "lengthOf(24) = 24; characterOf(24, 22) = 97; characterOf(24, 23) = 98");
    }

    private static void promise4InsertFirstError() {
        run("promise 4: an empty clip comes before the range", "insert(-1) = NONE; insert(1) = NONE;"
                + refused("NONE", "insert", MIN) + refused("NONE", "insert", MAX));
        run("promise 4: an empty clip comes before a full tree", deepTree() + "insert(0) = NONE;"
                + "insert(23) = NONE; insert(24) = NONE");
        run("promise 4: an empty clip in a full text", text40() + "insert(40) = NONE; insert(41) = NONE");
        run("promise 4: an empty clip comes before the range, in a full text and tree",
                fullTextInFullTree() + "insert(41) = NONE; insert(-1) = NONE; insert(40) = NONE");
        run("promise 4: the range comes before a full text", text40() + type("X")
                + "insert(41) = OUT_OF_RANGE; insert(-1) = OUT_OF_RANGE; insert(40) = TEXT_FULL;"
                + "insert(0) = TEXT_FULL");
        run("promise 4: the range comes before a full tree", deepTree() + type("X")
                + "insert(24) = OUT_OF_RANGE; insert(-1) = OUT_OF_RANGE; insert(23) = TREE_FULL;"
                + "insert(0) = TREE_FULL");
        run("promise 4: a full text comes before a full tree", fullTextInFullTree() + type("X")
                + "insert(0) = TEXT_FULL; insert(40) = TEXT_FULL; undo() = 22; insert(0) = TREE_FULL;"
                + "append(89) = 2; insert(0) = TEXT_FULL");
        run("promise 4: the range comes before a full text and a full tree", fullTextInFullTree()
                + type("X") + "insert(41) = OUT_OF_RANGE; insert(-1) = OUT_OF_RANGE");
    }

    // ---- promise 5

    private static void promise5DeleteRanges() {
        run("promise 5: 1 is the least length, 0 is refused", eight() + "delete(0, 0) = OUT_OF_RANGE;"
                + "delete(8, 0) = OUT_OF_RANGE; delete(3, -1) = OUT_OF_RANGE; delete(0, 1) = 3;"
                + shows(3, "bcdefgh"));
        run("promise 5: 6 is the greatest length, 7 is refused", eight() + "delete(0, 7) = OUT_OF_RANGE;"
                + "delete(1, 7) = OUT_OF_RANGE; delete(0, 8) = OUT_OF_RANGE; delete(0, 6) = 3;"
                + shows(3, "gh"));
        run("promise 5: 0 is the first position, -1 is refused", eight() + "delete(-1, 1) = OUT_OF_RANGE;"
                + "delete(-1, 2) = OUT_OF_RANGE; delete(-6, 6) = OUT_OF_RANGE; delete(0, 2) = 3;"
                + shows(3, "cdefgh"));
        run("promise 5: the last character can be deleted, none behind it", eight()
                + "delete(8, 1) = OUT_OF_RANGE; delete(9, 1) = OUT_OF_RANGE; delete(7, 1) = 3;"
                + shows(3, "abcdefg") + "delete(7, 1) = OUT_OF_RANGE");
        run("promise 5: position + length may be the length of the text, not one more", eight()
                + "delete(3, 6) = OUT_OF_RANGE; delete(7, 2) = OUT_OF_RANGE; delete(2, 6) = 3;"
                + shows(3, "ab") + "undo() = 2; delete(6, 2) = 4;" + shows(4, "abcdef"));
        run("promise 5: the sum does not overflow", eight() + refused("OUT_OF_RANGE", "delete", MAX, 1)
                + refused("OUT_OF_RANGE", "delete", MAX, 6) + refused("OUT_OF_RANGE", "delete", MAX - 5, 6)
                + refused("OUT_OF_RANGE", "delete", MAX - 4, 6) + refused("OUT_OF_RANGE", "delete", MAX - 6, 6)
                + refused("OUT_OF_RANGE", "delete", MAX - 1, 2));
        run("promise 5: a length whose sum would overflow", eight()
                + refused("OUT_OF_RANGE", "delete", 0, MAX) + refused("OUT_OF_RANGE", "delete", 1, MAX)
                + refused("OUT_OF_RANGE", "delete", 8, MAX) + refused("OUT_OF_RANGE", "delete", MAX, MAX));
        run("promise 5: values far below", eight() + refused("OUT_OF_RANGE", "delete", MIN, 1)
                + refused("OUT_OF_RANGE", "delete", MIN, 6) + refused("OUT_OF_RANGE", "delete", 0, MIN)
                + refused("OUT_OF_RANGE", "delete", 8, MIN) + refused("OUT_OF_RANGE", "delete", MIN, MIN)
                + refused("OUT_OF_RANGE", "delete", MAX, MIN) + refused("OUT_OF_RANGE", "delete", MIN, MAX));
        run("promise 5: the text is that of the current node, not the longest", eight()
                + "jump(1) = 1; delete(6, 1) = OUT_OF_RANGE; delete(5, 2) = OUT_OF_RANGE;"
                + "delete(5, 1) = 3;" + shows(3, "abcde"));
    }

    private static void promise5DeleteFull() {
        run("promise 5: nothing can be deleted from the empty text", "delete(0, 1) = OUT_OF_RANGE;"
                + "delete(0, 6) = OUT_OF_RANGE; nodeCount() = 1; current() = 0");
        run("promise 5: a text can be deleted whole", type("abcdef") + "insert(0) = 1;"
                + "delete(0, 6) = 2;" + shows(2, "") + "delete(0, 1) = OUT_OF_RANGE");
        run("promise 5: a text of 1 can be deleted", type("a") + "insert(0) = 1; delete(0, 2) = OUT_OF_RANGE;"
                + "delete(1, 1) = OUT_OF_RANGE; delete(0, 1) = 2;" + shows(2, ""));
        run("promise 5: the ends of a full text", text40() + "delete(40, 1) = OUT_OF_RANGE;"
                + "delete(35, 6) = OUT_OF_RANGE; delete(34, 6) = 8; lengthOf(8) = 34; undo() = 7;"
                + "delete(39, 1) = 9; lengthOf(9) = 39; undo() = 7; delete(0, 6) = 10; lengthOf(10) = 34;"
                + "characterOf(10, 33) = 122");
        run("promise 5: the 24th node is taken, the 25th is refused", inserts(1, 22)
                + "delete(0, 1) = 23; nodeCount() = 24; delete(0, 1) = TREE_FULL; nodeCount() = 24;"
                + "current() = 23; lengthOf(23) = 21");
        run("promise 5: a full tree has room when one is forgotten", deepTree()
                + "delete(0, 1) = TREE_FULL; undo() = 22; delete(0, 1) = TREE_FULL; forget(23) = 23;"
                + "delete(0, 1) = 24; parentOf(24) = 22; delete(0, 1) = TREE_FULL");
        run("promise 5: the range comes before a full tree", deepTree() + "delete(-1, 1) = OUT_OF_RANGE;"
                + "delete(0, 0) = OUT_OF_RANGE; delete(0, 7) = OUT_OF_RANGE; delete(23, 1) = OUT_OF_RANGE;"
                + "delete(18, 6) = OUT_OF_RANGE;" + refused("OUT_OF_RANGE", "delete", MAX, 1)
                + "delete(17, 6) = TREE_FULL; delete(22, 1) = TREE_FULL; delete(0, 1) = TREE_FULL");
        run("promise 5: the clip stays", type("ab") + "insert(0) = 1;" + type("cdefgh")
                + "delete(0, 3) = OUT_OF_RANGE; delete(0, 2) = 2; clearClip() = 6");
    }

    // ---- promises 6 to 8

    private static void promise6Undo() {
        run("promise 6: nothing to undo at the root of a new tree", "undo() = NONE; current() = 0");
        run("promise 6: nothing to undo at the root of a tree with nodes", type("a") + "insert(0) = 1;"
                + "undo() = 0; undo() = NONE; current() = 0; favouriteOf(0) = 1; redo() = 1");
        run("promise 6: from the deepest node up to the root", deepTree() + upFrom(23)
                + "undo() = NONE; nodeCount() = 24; current() = 0");
        run("promise 6: to the parent, not to the node before", branches() + "current() = 5; undo() = 0;"
                + "jump(3) = 2; undo() = 1");
        run("promise 6: a full text and a full tree do not hinder it", fullTextInFullTree()
                + "undo() = 22; lengthOf(23) = 40; nodeCount() = 24; redo() = 23");
    }

    private static void promise7Redo() {
        run("promise 7: nothing to redo in a new tree", "redo() = NONE; current() = 0");
        run("promise 7: nothing to redo at a node without children", type("a") + "insert(0) = 1;"
                + "redo() = NONE; undo() = 0; redo() = 1; redo() = NONE; current() = 1");
        run("promise 7: nothing to redo when the only child is forgotten", type("a") + "insert(0) = 1;"
                + "undo() = 0; forget(1) = 1; redo() = NONE; current() = 0");
        run("promise 7: to the favourite, not to the first or the last child", children(3)
                + "jump(2) = 1; undo() = 0; redo() = 2; current() = 2");
        run("promise 7: to the follower of a forgotten favourite", children(3) + "jump(1) = 1;"
                + "undo() = 0; forget(1) = 3; redo() = 3; current() = 3");
        run("promise 7: from the root down to the deepest node", deepTree() + "jump(0) = 23;"
                + downTo(23) + "redo() = NONE; current() = 23; nodeCount() = 24");
    }

    private static void promise8Jump() {
        run("promise 8: to the current node, 0 steps, and it becomes current again", "jump(0) = 0;"
                + "timeOf(0) = 1; jump(0) = 0; timeOf(0) = 2;" + type("a") + "insert(0) = 1; jump(1) = 0;"
                + "timeOf(1) = 4; timeOf(0) = 2; current() = 1");
        run("promise 8: to the parent and to a child, 1 step", type("a") + "insert(0) = 1; jump(0) = 1;"
                + "current() = 0; jump(1) = 1; current() = 1");
        run("promise 8: to the root and to the deepest node, 23 steps", deepTree() + "jump(0) = 23;"
                + "current() = 0; jump(23) = 23; current() = 23");
        run("promise 8: between the ends of two branches, 23 steps", inserts(1, 11) + "jump(0) = 11;"
                + inserts(12, 23) + "nodeCount() = 24; jump(11) = 23; jump(23) = 23; jump(1) = 13");
        run("promise 8: the first number not given and -1 are refused", type("a") + "insert(0) = 1;"
                + "jump(2) = NO_SUCH_NODE; jump(-1) = NO_SUCH_NODE; current() = 1;" + clockIs(1, 1));
        run("promise 8: a forgotten node is refused, its neighbours are not", children(3)
                + "forget(2) = 3; jump(2) = NO_SUCH_NODE; jump(1) = 1; jump(3) = 2");
    }

    // ---- promise 9

    private static void promise9UndoEditNodes() {
        run("promise 9: the root is refused", "undoEdit(0) = WRONG_NODE;" + type("a") + "insert(0) = 1;"
                + "undoEdit(0) = WRONG_NODE; undo() = 0; undoEdit(0) = WRONG_NODE");
        run("promise 9: the first node and the current node are taken", type("a") + "insert(0) = 1;"
                + type("b") + "insert(1) = 2;" + type("c") + "insert(2) = 3; undoEdit(1) = 4;"
                + shows(4, "bc") + "jump(3) = 1; undoEdit(3) = 5;" + shows(5, "ab"));
        run("promise 9: a node below the current one is refused", type("a") + "insert(0) = 1;" + type("b")
                + "insert(1) = 2; undo() = 1; undoEdit(2) = WRONG_NODE; undo() = 0;"
                + "undoEdit(1) = WRONG_NODE; undoEdit(2) = WRONG_NODE");
        run("promise 9: a node beside the path is refused", branches() + "undoEdit(1) = WRONG_NODE;"
                + "undoEdit(4) = WRONG_NODE; jump(2) = 3; undoEdit(3) = WRONG_NODE; undoEdit(5) = WRONG_NODE;"
                + "undoEdit(1) = 6");
        run("promise 9: the first number not given, -1 and a forgotten node do not exist", type("a")
                + "insert(0) = 1;" + type("b") + "insert(0) = 2; undo() = 1; undoEdit(3) = NO_SUCH_NODE;"
                + "undoEdit(-1) = NO_SUCH_NODE; forget(2) = 2; undoEdit(2) = NO_SUCH_NODE");
        run("promise 9: the clip stays, full or empty", type("ab") + "insert(0) = 1; undoEdit(1) = 2;"
                + "insert(0) = NONE;" + type("uvwxyz") + "undoEdit(2) = 3; append(97) = TEXT_FULL;"
                + "clearClip() = 6");
        run("promise 9: an edit can be undone twice, if it is a deletion", type("ab") + "insert(0) = 1;"
                + "delete(0, 2) = 2; undoEdit(2) = 3; undoEdit(2) = 4;" + shows(4, "abab")
                + "undoEdit(3) = 5; undoEdit(3) = CONFLICT");
    }

    /** Node 2 inserts "abc" into "--++": in "--abc++", a is 2 and n is 3. */
    private static String string() {
        return type("--++") + "insert(0) = 1;" + type("abc") + "insert(2) = 2;";
    }

    private static void promise9UndoEditOfInsertions() {
        run("promise 9: no later edit", string() + "undoEdit(2) = 3; editOf(3) = 2031;" + shows(3, "--++"));
        run("promise 9: a later insertion at q = a adds m", string() + type("XY") + "insert(2) = 3;"
                + "conflictWith(2) = NONE; undoEdit(2) = 4; editOf(4) = 4031;" + shows(4, "--XY++"));
        run("promise 9: a later insertion at q = a - 1 adds m", string() + type("XY") + "insert(1) = 3;"
                + "undoEdit(2) = 4; editOf(4) = 4031;" + shows(4, "-XY-++"));
        run("promise 9: a later insertion at q = a + 1 is the first that conflicts", string() + type("X")
                + "insert(3) = 3; conflictWith(2) = 3; undoEdit(2) = CONFLICT");
        run("promise 9: a later insertion at q = a + n - 1 is the last that conflicts", string()
                + type("X") + "insert(4) = 3; conflictWith(2) = 3; undoEdit(2) = CONFLICT");
        run("promise 9: a later insertion at q = a + n has no effect", string() + type("X")
                + "insert(5) = 3; conflictWith(2) = NONE; undoEdit(2) = 4; editOf(4) = 2031;"
                + shows(4, "--X++"));
        run("promise 9: no later insertion conflicts with a string of 1", type("--") + "insert(0) = 1;"
                + type("a") + "insert(1) = 2;" + type("X") + "insert(1) = 3; undoEdit(2) = 4;"
                + shows(4, "-X-") + "jump(2) = 2;" + type("X") + "insert(2) = 5; undoEdit(2) = 6;"
                + shows(6, "-X-"));
        run("promise 9: a later deletion with q + m = a subtracts m", string() + "delete(0, 2) = 3;"
                + "conflictWith(2) = NONE; undoEdit(2) = 4; editOf(4) = 31;" + shows(4, "++"));
        run("promise 9: a later deletion with q + m = a - 1 subtracts m", string() + "delete(0, 1) = 3;"
                + "undoEdit(2) = 4; editOf(4) = 1031;" + shows(4, "-++"));
        run("promise 9: a later deletion with q + m = a + 1 conflicts", string() + "delete(1, 2) = 3;"
                + "conflictWith(2) = 3; undoEdit(2) = CONFLICT");
        run("promise 9: a later deletion at q = a conflicts", string() + "delete(2, 1) = 3;"
                + "conflictWith(2) = 3; undoEdit(2) = CONFLICT");
        run("promise 9: a later deletion at q = a + n - 1 conflicts", string() + "delete(4, 1) = 3;"
                + "conflictWith(2) = 3; undoEdit(2) = CONFLICT");
        run("promise 9: a later deletion over the end conflicts", string() + "delete(4, 3) = 3;"
                + "conflictWith(2) = 3; undoEdit(2) = CONFLICT");
        run("promise 9: a later deletion at q = a + n has no effect", string() + "delete(5, 2) = 3;"
                + "conflictWith(2) = NONE; undoEdit(2) = 4; editOf(4) = 2031;" + shows(4, "--"));
        run("promise 9: a later deletion of the string itself conflicts", string() + "delete(2, 3) = 3;"
                + "conflictWith(2) = 3; undoEdit(2) = CONFLICT");
        run("promise 9: a later deletion around the string conflicts", string() + "delete(1, 5) = 3;"
                + "conflictWith(2) = 3; undoEdit(2) = CONFLICT");
        run("promise 9: a string at 0, with nothing before it", type("ab") + "insert(0) = 1;" + type("X")
                + "insert(0) = 2; conflictWith(1) = NONE; undoEdit(1) = 3; editOf(3) = 1021;" + shows(3, "X")
                + "undoEdit(2) = 4;" + shows(4, ""));
        run("promise 9: a string of 6 that is the whole text", type("abcdef") + "insert(0) = 1;"
                + "undoEdit(1) = 2; editOf(2) = 61;" + shows(2, ""));
    }

    /** Node 2 deletes "bc" from "-abcd+": in "-ad+", a is 2. */
    private static String gap() {
        return type("-abcd+") + "insert(0) = 1; delete(2, 2) = 2;";
    }

    private static void promise9UndoEditOfDeletions() {
        run("promise 9: no edit later than the deletion", gap() + "undoEdit(2) = 3; editOf(3) = 2020;"
                + shows(3, "-abcd+"));
        run("promise 9: after a deletion, an insertion at q = a - 1 adds m", gap() + type("XY")
                + "insert(1) = 3; conflictWith(2) = NONE; undoEdit(2) = 4; editOf(4) = 4020;"
                + shows(4, "-XYabcd+"));
        run("promise 9: after a deletion, an insertion at q = a has no effect", gap() + type("XY")
                + "insert(2) = 3; conflictWith(2) = NONE; undoEdit(2) = 4; editOf(4) = 2020;"
                + shows(4, "-abcXYd+"));
        run("promise 9: after a deletion, an insertion at q = a + 1 has no effect", gap() + type("XY")
                + "insert(3) = 3; undoEdit(2) = 4; editOf(4) = 2020;" + shows(4, "-abcdXY+"));
        run("promise 9: after a deletion, a deletion with q + m = a subtracts m", gap()
                + "delete(0, 2) = 3; conflictWith(2) = NONE; undoEdit(2) = 4; editOf(4) = 20;"
                + shows(4, "bcd+"));
        run("promise 9: after a deletion, a deletion of the one before it subtracts 1", gap()
                + "delete(1, 1) = 3; conflictWith(2) = NONE; undoEdit(2) = 4; editOf(4) = 1020;"
                + shows(4, "-bcd+"));
        run("promise 9: after a deletion, a deletion with q + m = a + 1 conflicts", gap()
                + "delete(1, 2) = 3; conflictWith(2) = 3; undoEdit(2) = CONFLICT");
        run("promise 9: after a deletion, a deletion around it conflicts", gap() + "delete(0, 4) = 3;"
                + "conflictWith(2) = 3; undoEdit(2) = CONFLICT");
        run("promise 9: after a deletion, a deletion at q = a has no effect", gap() + "delete(2, 1) = 3;"
                + "conflictWith(2) = NONE; undoEdit(2) = 4; editOf(4) = 2020;" + shows(4, "-abc+"));
        run("promise 9: after a deletion, a deletion at q = a + 1 has no effect", gap()
                + "delete(3, 1) = 3; undoEdit(2) = 4; editOf(4) = 2020;" + shows(4, "-abcd"));
        run("promise 9: a deletion at 0, which nothing can move", type("abcd") + "insert(0) = 1;"
                + "delete(0, 2) = 2;" + type("X") + "insert(0) = 3; delete(0, 3) = 4;"
                + "conflictWith(2) = NONE; undoEdit(2) = 5; editOf(5) = 20;" + shows(5, "ab"));
        run("promise 9: a deletion at the end of the text", type("abcd") + "insert(0) = 1;"
                + "delete(2, 2) = 2;" + type("X") + "insert(2) = 3; undoEdit(2) = 4; editOf(4) = 2020;"
                + shows(4, "abcdX"));
        run("promise 9: a deletion of a whole text of 6", type("abcdef") + "insert(0) = 1;"
                + "delete(0, 6) = 2; undoEdit(2) = 3; editOf(3) = 60;" + shows(3, "abcdef"));
    }

    private static void promise9UndoEditInOrder() {
        run("promise 9: a later edit meets the string where the ones before have moved it", string()
                + type("XYZ") + "insert(0) = 3; delete(3, 2) = 4; conflictWith(2) = NONE; undoEdit(2) = 5;"
                + "editOf(5) = 3031;" + shows(5, "XYZ++"));
        run("promise 9: a later edit that would miss the string where it was, but not where it is",
                string() + type("XYZ") + "insert(0) = 3; delete(5, 1) = 4; conflictWith(2) = 4;"
                + "undoEdit(2) = CONFLICT");
        run("promise 9: a later edit that would meet the string where it was, but not where it is",
                string() + "delete(0, 2) = 3; delete(3, 1) = 4; conflictWith(2) = NONE; undoEdit(2) = 5;"
                + "editOf(5) = 31;" + shows(5, "+"));
        run("promise 9: a later edit meets the deletion where the ones before have moved it", gap()
                + type("XY") + "insert(0) = 3; delete(2, 2) = 4; conflictWith(2) = NONE; undoEdit(2) = 5;"
                + "editOf(5) = 2020;" + shows(5, "XYbcd+"));
        run("promise 9: a later deletion over the deletion that has moved", gap() + type("XY")
                + "insert(0) = 3; delete(3, 2) = 4; conflictWith(2) = 4; undoEdit(2) = CONFLICT");
        run("promise 9: a conflict stays when the conflicting edit has been undone", string() + type("X")
                + "insert(3) = 3; undoEdit(3) = 4;" + shows(4, "--abc++") + "conflictWith(2) = 3;"
                + "undoEdit(2) = CONFLICT");
        run("promise 9: an edit before the undone one does not count", type("ab") + "insert(0) = 1;"
                + type("X") + "insert(1) = 2; conflictWith(1) = 2; conflictWith(2) = NONE; undoEdit(2) = 3;"
                + shows(3, "ab"));
        run("promise 9: an edit beside the path does not count", string() + type("X") + "insert(3) = 3;"
                + "undo() = 2;" + type("Y") + "insert(7) = 4; conflictWith(2) = NONE; undoEdit(2) = 5;"
                + shows(5, "--++Y"));
        run("promise 9: an edit below the current node does not count", string() + type("X")
                + "insert(3) = 3; undo() = 2; conflictWith(2) = NONE; undoEdit(2) = 4;" + shows(4, "--++"));
        run("promise 9: 22 later edits", deepTree() + "undo() = 22; forget(23) = 23; conflictWith(1) = NONE;"
                + "undoEdit(1) = 24; editOf(24) = 21011; lengthOf(24) = 21");
    }

    private static void promise9UndoEditFull() {
        run("promise 9: 38 and 2 make 40, which is taken", text36() + "delete(0, 2) = 7;" + type("wxyz")
                + "insert(34) = 8; lengthOf(8) = 38; undoEdit(7) = 9; lengthOf(9) = 40;"
                + "characterOf(9, 0) = 97; characterOf(9, 39) = 122");
        run("promise 9: 39 and 2 make 41, which is refused", text36() + "delete(0, 2) = 7;" + type("vwxyz")
                + "insert(34) = 8; lengthOf(8) = 39; conflictWith(7) = NONE; undoEdit(7) = TEXT_FULL;"
                + "current() = 8; nodeCount() = 9");
        run("promise 9: 40 and 1 make 41, which is refused", text40() + "delete(39, 1) = 8;" + type("X")
                + "insert(39) = 9; undoEdit(8) = TEXT_FULL; delete(0, 1) = 10; undoEdit(8) = 11;"
                + "lengthOf(11) = 40");
        run("promise 9: 34 and 6 make 40, 35 and 6 are refused", text40() + "delete(0, 6) = 8;"
                + "undoEdit(8) = 9; lengthOf(9) = 40; undo() = 8;" + type("X") + "insert(0) = 10;"
                + "undoEdit(8) = TEXT_FULL");
        run("promise 9: a full text does not hinder the undo of an insertion", text40()
                + "undoEdit(7) = 8; lengthOf(8) = 36");
        run("promise 9: the 24th node is taken, the 25th is refused, for an insertion", inserts(1, 22)
                + "undoEdit(22) = 23; nodeCount() = 24; undoEdit(23) = TREE_FULL; undoEdit(1) = TREE_FULL;"
                + "nodeCount() = 24; current() = 23");
        run("promise 9: the 24th node is taken, the 25th is refused, for a deletion", inserts(1, 21)
                + "delete(0, 1) = 22; undoEdit(22) = 23; nodeCount() = 24; undoEdit(22) = TREE_FULL");
        run("promise 9: a full tree has room when one is forgotten", deepTree() + "undo() = 22;"
                + "undoEdit(22) = TREE_FULL; forget(23) = 23; undoEdit(22) = 24; undoEdit(24) = TREE_FULL");
    }

    private static void promise9UndoEditFirstError() {
        run("promise 9: a node that does not exist comes before a full tree", deepTree()
                + "undoEdit(24) = NO_SUCH_NODE; undoEdit(-1) = NO_SUCH_NODE");
        run("promise 9: a node that does not exist comes before a full text and a full tree",
                fullTextInFullTree() + "undoEdit(24) = NO_SUCH_NODE; undoEdit(-1) = NO_SUCH_NODE");
        run("promise 9: a wrong node comes before a full tree", deepTree() + "undoEdit(0) = WRONG_NODE;"
                + "undo() = 22; undoEdit(23) = WRONG_NODE");
        run("promise 9: a wrong node comes before a conflict", string() + type("X") + "insert(3) = 3;"
                + "jump(1) = 2; undoEdit(2) = WRONG_NODE; jump(3) = 2; undoEdit(2) = CONFLICT");
        run("promise 9: a wrong node comes before a full text", text40() + "delete(0, 1) = 8; undo() = 7;"
                + "undoEdit(8) = WRONG_NODE; undoEdit(0) = WRONG_NODE");
        run("promise 9: a conflict comes before a full text", text40() + "delete(1, 2) = 8;"
                + "delete(0, 2) = 9;" + type("stuv") + "insert(0) = 10; lengthOf(10) = 40;"
                + "undoEdit(8) = CONFLICT; undoEdit(9) = TEXT_FULL");
        run("promise 9: a conflict comes before a full tree", string() + type("X") + "insert(3) = 3;"
                + inserts(4, 23) + "nodeCount() = 24; undoEdit(2) = CONFLICT; undoEdit(3) = TREE_FULL");
        run("promise 9: a full text comes before a full tree", fullTextInFullTree()
                + "undoEdit(22) = TEXT_FULL; undoEdit(23) = TREE_FULL");
        run("promise 9: a conflict comes before a full text and a full tree", text40()
                + "delete(1, 2) = 8; delete(0, 2) = 9;" + type("stuv") + "insert(0) = 10;" + turns(11, 22)
                + type("Z") + "undo() = 21; insert(39) = 23; nodeCount() = 24; lengthOf(23) = 40;"
                + "undoEdit(8) = CONFLICT; undoEdit(9) = TEXT_FULL; undoEdit(23) = TREE_FULL");
    }

    // ---- promises 10 to 12

    private static void promise10ConflictWith() {
        run("promise 10: the root is refused", "conflictWith(0) = WRONG_NODE;" + type("a")
                + "insert(0) = 1; conflictWith(0) = WRONG_NODE");
        run("promise 10: a node below the current one, or beside its path, is refused", branches()
                + "conflictWith(1) = WRONG_NODE; conflictWith(4) = WRONG_NODE; jump(1) = 2;"
                + "conflictWith(2) = WRONG_NODE; conflictWith(5) = WRONG_NODE; conflictWith(1) = NONE");
        run("promise 10: the first number not given, -1 and a forgotten node do not exist", type("a")
                + "insert(0) = 1;" + type("b") + "insert(0) = 2; undo() = 1; conflictWith(3) = NO_SUCH_NODE;"
                + "conflictWith(-1) = NO_SUCH_NODE; forget(2) = 2; conflictWith(2) = NO_SUCH_NODE");
        run("promise 10: the current node has no later edit", string() + "conflictWith(2) = NONE");
        run("promise 10: the first of several conflicts", string() + type("X") + "insert(0) = 3;" + type("Y")
                + "insert(4) = 4;" + type("Z") + "insert(6) = 5; delete(3, 5) = 6; conflictWith(2) = 4");
        run("promise 10: the last edit of the path conflicts", string() + type("X") + "insert(0) = 3;"
                + "delete(3, 1) = 4; conflictWith(2) = 4; undo() = 3; conflictWith(2) = NONE");
        run("promise 10: the edit right behind conflicts", string() + "conflictWith(1) = 2");
        run("promise 10: a full text and a full tree are no conflict", fullTextInFullTree()
                + "conflictWith(22) = NONE; conflictWith(23) = NONE; undoEdit(22) = TEXT_FULL;"
                + "undoEdit(23) = TREE_FULL");
        run("promise 10: no conflict where undoEdit is taken, and nothing is done", string()
                + "conflictWith(2) = NONE; nodeCount() = 3; current() = 2; undoEdit(2) = 3");
    }

    private static void promises11And12CurrentAndNodeCount() {
        run("promise 11: the root at first, and again", "current() = 0;" + type("a") + "insert(0) = 1;"
                + "current() = 1; undo() = 0; current() = 0");
        run("promise 11: a refused call leaves the current node", type("a") + "insert(0) = 1; redo() = NONE;"
                + "jump(2) = NO_SUCH_NODE; goToMark(0) = NONE; delete(0, 2) = OUT_OF_RANGE;"
                + "undoEdit(0) = WRONG_NODE; current() = 1");
        run("promise 11: the number may be far above 24", recycled(60) + "current() = 0;" + type("z")
                + "insert(0) = 61; current() = 61");
        run("promise 12: 1 with the root alone, at first and again", "nodeCount() = 1;" + type("a")
                + "insert(0) = 1; nodeCount() = 2; undo() = 0; nodeCount() = 2; forget(1) = 1;"
                + "nodeCount() = 1");
        run("promise 12: 24 in a full tree", inserts(1, 22) + "nodeCount() = 23; delete(0, 1) = 23;"
                + "nodeCount() = 24; delete(0, 1) = TREE_FULL; nodeCount() = 24");
        run("promise 12: forgotten nodes are not counted, though their numbers are gone", recycled(60)
                + "nodeCount() = 1;" + type("z") + "insert(0) = 61; nodeCount() = 2");
    }

    // ---- promises 13 to 19

    private static void promise13LengthOf() {
        run("promise 13: 0 for the root and for a text that was deleted whole", "lengthOf(0) = 0;"
                + type("a") + "insert(0) = 1; delete(0, 1) = 2; lengthOf(2) = 0; lengthOf(1) = 1");
        run("promise 13: 40 for a full text", text40() + "lengthOf(7) = 40; lengthOf(6) = 36");
        run("promise 13: the last number given is taken, the next one and -1 are refused", type("a")
                + "insert(0) = 1; lengthOf(1) = 1; lengthOf(2) = NO_SUCH_NODE; lengthOf(-1) = NO_SUCH_NODE");
        run("promise 13: the node with the number 23 of a full tree, and no 24", deepTree()
                + "lengthOf(23) = 23; lengthOf(24) = NO_SUCH_NODE");
        run("promise 13: a forgotten node is refused", type("a") + "insert(0) = 1; undo() = 0; forget(1) = 1;"
                + "lengthOf(1) = NO_SUCH_NODE");
    }

    private static void promise14CharacterOf() {
        run("promise 14: the empty text has no character", "characterOf(0, 0) = OUT_OF_RANGE;"
                + "characterOf(0, -1) = OUT_OF_RANGE; characterOf(0, 1) = OUT_OF_RANGE");
        run("promise 14: 0 is the first index, -1 is refused", type("ab") + "insert(0) = 1;"
                + "characterOf(1, 0) = 97; characterOf(1, -1) = OUT_OF_RANGE");
        run("promise 14: the length less 1 is the last index, the length is refused", type("ab")
                + "insert(0) = 1; characterOf(1, 1) = 98; characterOf(1, 2) = OUT_OF_RANGE");
        run("promise 14: what a longer text held is not shown", type("abc") + "insert(0) = 1;"
                + "delete(1, 2) = 2; characterOf(2, 1) = OUT_OF_RANGE; undo() = 1; forget(2) = 2; undo() = 0;"
                + type("x") + "insert(0) = 3;" + shows(3, "x") + "characterOf(3, 2) = OUT_OF_RANGE");
        run("promise 14: index 39 of a full text is the last", text40() + "characterOf(7, 0) = 97;"
                + "characterOf(7, 39) = 122; characterOf(7, 40) = OUT_OF_RANGE;"
                + "characterOf(7, 41) = OUT_OF_RANGE");
        run("promise 14: indexes far outside", type("ab") + "insert(0) = 1;"
                + refused("OUT_OF_RANGE", "characterOf", 1, MIN)
                + refused("OUT_OF_RANGE", "characterOf", 1, MAX));
        run("promise 14: the least and the greatest code", type(" ~") + "insert(0) = 1;"
                + "characterOf(1, 0) = 32; characterOf(1, 1) = 126");
        run("promise 14: a node that does not exist comes before the index", type("ab") + "insert(0) = 1;"
                + "characterOf(2, 0) = NO_SUCH_NODE; characterOf(2, -1) = NO_SUCH_NODE;"
                + "characterOf(-1, 40) = NO_SUCH_NODE;" + refused("NO_SUCH_NODE", "characterOf", MAX, MIN)
                + "undo() = 0; forget(1) = 1; characterOf(1, 0) = NO_SUCH_NODE;"
                + "characterOf(1, 2) = NO_SUCH_NODE");
    }

    private static void promise15EditOf() {
        run("promise 15: the root is refused", "editOf(0) = WRONG_NODE;" + type("a")
                + "insert(0) = 1; editOf(0) = WRONG_NODE");
        run("promise 15: the least and the greatest insertion at 0", type("a") + "insert(0) = 1;"
                + "editOf(1) = 10;" + type("abcdef") + "insert(0) = 2; editOf(2) = 60");
        run("promise 15: the least and the greatest deletion at 0", type("abcdef") + "insert(0) = 1;"
                + "delete(0, 1) = 2; editOf(2) = 11; undo() = 1; delete(0, 6) = 3; editOf(3) = 61");
        run("promise 15: the farthest insertion", text40() + "delete(39, 1) = 8;" + type("X")
                + "insert(39) = 9; editOf(9) = 39010; editOf(7) = 36040");
        run("promise 15: the farthest deletions", text40() + "delete(39, 1) = 8; editOf(8) = 39011;"
                + "undo() = 7; delete(34, 6) = 9; editOf(9) = 34061");
        run("promise 15: the first number not given, -1 and a forgotten node are refused", type("a")
                + "insert(0) = 1; editOf(2) = NO_SUCH_NODE; editOf(-1) = NO_SUCH_NODE; undo() = 0;"
                + "forget(1) = 1; editOf(1) = NO_SUCH_NODE");
        run("promise 15: a new node has nothing of a forgotten one's edit", type("abc") + "insert(0) = 1;"
                + "delete(1, 2) = 2; undo() = 1; forget(2) = 2;" + type("X") + "insert(3) = 3;"
                + "editOf(3) = 3010; undo() = 1; forget(3) = 2; delete(0, 1) = 4; editOf(4) = 11");
    }

    private static void promise16ParentOf() {
        run("promise 16: the root is refused", "parentOf(0) = WRONG_NODE;" + type("a")
                + "insert(0) = 1; parentOf(0) = WRONG_NODE");
        run("promise 16: the root is a parent", type("a") + "insert(0) = 1; parentOf(1) = 0");
        run("promise 16: the parents in a full tree", deepTree() + "parentOf(23) = 22; parentOf(1) = 0;"
                + "parentOf(24) = NO_SUCH_NODE");
        run("promise 16: the first number not given, -1 and a forgotten node are refused", type("a")
                + "insert(0) = 1; parentOf(2) = NO_SUCH_NODE; parentOf(-1) = NO_SUCH_NODE; undo() = 0;"
                + "forget(1) = 1; parentOf(1) = NO_SUCH_NODE");
        run("promise 16: a new node has nothing of a forgotten one's parent", branches() + "forget(4) = 5;"
                + type("z") + "insert(0) = 6; parentOf(6) = 5");
    }

    private static void promise17ChildOf() {
        run("promise 17: a node without children", "childOf(0, 0) = NONE; childOf(0, 1) = NONE;"
                + "childOf(0, -1) = NONE");
        run("promise 17: 0 is the first index, -1 is refused", children(3) + "childOf(0, 0) = 1;"
                + "childOf(0, -1) = NONE");
        run("promise 17: the number of children less 1 is the last index", children(3)
                + "childOf(0, 2) = 3; childOf(0, 3) = NONE");
        run("promise 17: 23 children, the most there can be", wideTree() + "childOf(0, 0) = 1;"
                + "childOf(0, 22) = 23; childOf(0, 23) = NONE; childOf(0, 24) = NONE; childOf(23, 0) = NONE");
        run("promise 17: indexes far outside", children(3) + refused("NONE", "childOf", 0, MIN)
                + refused("NONE", "childOf", 0, MAX) + refused("NONE", "childOf", 3, MIN));
        run("promise 17: children of children are not counted", branches() + "childOf(0, 1) = 5;"
                + "childOf(0, 2) = NONE; childOf(1, 1) = 3; childOf(1, 2) = NONE; childOf(3, 0) = 4");
        run("promise 17: a forgotten child is left out, first, middle and last", children(5)
                + "forget(3) = 5; childOf(0, 2) = 4; forget(1) = 4; childOf(0, 0) = 2; forget(5) = 3;"
                + "childOf(0, 1) = 4; childOf(0, 2) = NONE");
        run("promise 17: a node that does not exist comes before the index", "childOf(1, 0) = NO_SUCH_NODE;"
                + "childOf(1, -1) = NO_SUCH_NODE; childOf(-1, -1) = NO_SUCH_NODE;" + type("a")
                + "insert(0) = 1; undo() = 0; forget(1) = 1; childOf(1, 0) = NO_SUCH_NODE;"
                + "childOf(1, -1) = NO_SUCH_NODE;" + refused("NO_SUCH_NODE", "childOf", MIN, MIN));
    }

    private static void promise18FavouriteOf() {
        run("promise 18: a node without children has none", "favouriteOf(0) = NONE;" + type("a")
                + "insert(0) = 1; favouriteOf(1) = NONE");
        run("promise 18: the only child", type("a") + "insert(0) = 1; favouriteOf(0) = 1; undo() = 0;"
                + "favouriteOf(0) = 1");
        run("promise 18: one of 23 children", wideTree() + "favouriteOf(0) = 23; jump(1) = 1;"
                + "favouriteOf(0) = 1; jump(12) = 2; favouriteOf(0) = 12");
        run("promise 18: by goToMark, redo and undo too", branches() + "setMark(0, 4) = 1;"
                + "goToMark(0) = 4; favouriteOf(0) = 1; undo() = 3; undo() = 1; undo() = 0;"
                + "favouriteOf(0) = 1; favouriteOf(1) = 3; redo() = 1; favouriteOf(1) = 3;"
                + "favouriteOf(0) = 1");
        run("promise 18: setMark and clearMark do not count", children(3) + "setMark(0, 1) = 1;"
                + "favouriteOf(0) = 3; clearMark(0) = 1; favouriteOf(0) = 3");
        run("promise 18: the first number not given, -1 and a forgotten node are refused", type("a")
                + "insert(0) = 1; favouriteOf(2) = NO_SUCH_NODE; favouriteOf(-1) = NO_SUCH_NODE;"
                + "undo() = 0; forget(1) = 1; favouriteOf(1) = NO_SUCH_NODE");
        run("promise 18: a new node has nothing of a forgotten one's favourite", type("a")
                + "insert(0) = 1; delete(0, 1) = 2; jump(0) = 2; forget(2) = 2; forget(1) = 1;" + type("b")
                + "insert(0) = 3; favouriteOf(3) = NONE; redo() = NONE");
    }

    private static void promise19TimeOf() {
        run("promise 19: 0 for the root until it is made current", "timeOf(0) = 0;" + type("a")
                + "insert(0) = 1; timeOf(0) = 0; undo() = 0; timeOf(0) = 2");
        run("promise 19: the last of several times", type("a") + "insert(0) = 1; timeOf(1) = 1;"
                + "undo() = 0; redo() = 1; timeOf(1) = 3; jump(1) = 0; timeOf(1) = 4;"
                + "setMark(0, 1) = 1; goToMark(0) = 1; timeOf(1) = 5");
        run("promise 19: the first number not given, -1 and a forgotten node are refused", type("a")
                + "insert(0) = 1; timeOf(2) = NO_SUCH_NODE; timeOf(-1) = NO_SUCH_NODE; undo() = 0;"
                + "forget(1) = 1; timeOf(1) = NO_SUCH_NODE");
        run("promise 19: a refused call leaves the times", type("a") + "insert(0) = 1;"
                + "delete(0, 2) = OUT_OF_RANGE; redo() = NONE; jump(2) = NO_SUCH_NODE;"
                + "undoEdit(0) = WRONG_NODE; goToMark(0) = NONE; timeOf(1) = 1; timeOf(0) = 0");
        run("promise 19: times are not given again after forgetting", type("a") + "insert(0) = 1;"
                + "undo() = 0; forget(1) = 1;" + type("b") + "insert(0) = 2; timeOf(2) = 3");
    }

    // ---- promises 20 to 24

    private static void promise20CommonAncestor() {
        run("promise 20: of a node and itself", branches() + "commonAncestor(4, 4) = 4;"
                + "commonAncestor(0, 0) = 0; commonAncestor(5, 5) = 5");
        run("promise 20: of a node and its parent, in both orders", branches()
                + "commonAncestor(4, 3) = 3; commonAncestor(3, 4) = 3; commonAncestor(0, 1) = 0;"
                + "commonAncestor(1, 0) = 0");
        run("promise 20: the last node on both paths, not the root", branches()
                + "commonAncestor(2, 4) = 1; commonAncestor(4, 2) = 1");
        run("promise 20: the root alone is on both paths", branches() + "commonAncestor(4, 5) = 0;"
                + "commonAncestor(5, 4) = 0");
        run("promise 20: the ends of a tree of 24", deepTree() + "commonAncestor(23, 0) = 0;"
                + "commonAncestor(22, 23) = 22; commonAncestor(23, 23) = 23");
        run("promise 20: one node does not exist, first or second or both", branches()
                + "commonAncestor(6, 0) = NO_SUCH_NODE; commonAncestor(0, 6) = NO_SUCH_NODE;"
                + "commonAncestor(6, 6) = NO_SUCH_NODE; commonAncestor(-1, 0) = NO_SUCH_NODE;"
                + "commonAncestor(0, -1) = NO_SUCH_NODE; forget(4) = 5; commonAncestor(4, 0) = NO_SUCH_NODE;"
                + "commonAncestor(0, 4) = NO_SUCH_NODE; commonAncestor(4, 4) = NO_SUCH_NODE");
    }

    private static void promise21Distance() {
        run("promise 21: 0 from a node to itself", branches() + "distance(4, 4) = 0; distance(0, 0) = 0");
        run("promise 21: 1 to the parent and to a child", branches() + "distance(4, 3) = 1;"
                + "distance(3, 4) = 1; distance(0, 5) = 1; distance(5, 0) = 1");
        run("promise 21: 2 between two children of a node", branches() + "distance(1, 5) = 2;"
                + "distance(2, 3) = 2");
        run("promise 21: by the lowest common ancestor, not by the root", branches()
                + "distance(2, 4) = 3; distance(4, 2) = 3");
        run("promise 21: by the root", branches() + "distance(4, 5) = 4; distance(5, 4) = 4");
        run("promise 21: 23, the farthest of a tree of 24", deepTree() + "distance(0, 23) = 23;"
                + "distance(23, 0) = 23; current() = 23");
        run("promise 21: one node does not exist, first or second or both", branches()
                + "distance(6, 0) = NO_SUCH_NODE; distance(0, 6) = NO_SUCH_NODE;"
                + "distance(6, 6) = NO_SUCH_NODE; distance(-1, 0) = NO_SUCH_NODE;"
                + "distance(0, -1) = NO_SUCH_NODE; forget(4) = 5; distance(4, 0) = NO_SUCH_NODE;"
                + "distance(0, 4) = NO_SUCH_NODE; distance(4, 4) = NO_SUCH_NODE");
    }

    private static void promise22SetMark() {
        run("promise 22: 0 is the first mark, -1 is refused", "setMark(-1, 0) = OUT_OF_RANGE;"
                + "setMark(0, 0) = 1; clearMark(0) = 0");
        run("promise 22: 4 is the last mark, 5 is refused", "setMark(5, 0) = OUT_OF_RANGE;"
                + "setMark(4, 0) = 1; clearMark(4) = 0");
        run("promise 22: marks far outside", refused("OUT_OF_RANGE", "setMark", MIN, 0)
                + refused("OUT_OF_RANGE", "setMark", MAX, 0));
        run("promise 22: the first number not given, -1 and a forgotten node are refused", type("a")
                + "insert(0) = 1; undo() = 0; setMark(0, 2) = NO_SUCH_NODE; setMark(0, -1) = NO_SUCH_NODE;"
                + "forget(1) = 1; setMark(0, 1) = NO_SUCH_NODE; clearMark(0) = NONE");
        run("promise 22: the range comes before a node that does not exist", "setMark(-1, 1) = OUT_OF_RANGE;"
                + "setMark(5, 1) = OUT_OF_RANGE; setMark(5, -1) = OUT_OF_RANGE;"
                + refused("OUT_OF_RANGE", "setMark", MIN, MAX) + "setMark(4, 1) = NO_SUCH_NODE");
        run("promise 22: a mark is counted once, all five are counted", "setMark(0, 0) = 1;"
                + "setMark(0, 0) = 1; setMark(1, 0) = 2; setMark(2, 0) = 3; setMark(3, 0) = 4;"
                + "setMark(4, 0) = 5; setMark(2, 0) = 5");
        run("promise 22: a mark on another node is taken away from it", type("a") + "insert(0) = 1;"
                + "setMark(0, 0) = 1; setMark(1, 0) = 2; setMark(0, 1) = 1; setMark(2, 0) = 2;"
                + "clearMark(0) = 1; clearMark(1) = 0");
        run("promise 22: a refused call leaves the mark where it was", type("a") + "insert(0) = 1;"
                + "setMark(0, 1) = 1; setMark(0, 2) = NO_SUCH_NODE; setMark(5, 0) = OUT_OF_RANGE;"
                + "clearMark(0) = 1");
        run("promise 22: on the root, on the current node and on a node without children", branches()
                + "setMark(0, 0) = 1; setMark(1, 5) = 1; setMark(2, 4) = 1; setMark(3, 1) = 1");
    }

    private static void promise23ClearMark() {
        run("promise 23: 0 is the first mark, -1 is refused", "clearMark(-1) = OUT_OF_RANGE;"
                + "clearMark(0) = NONE");
        run("promise 23: 4 is the last mark, 5 is refused", "clearMark(5) = OUT_OF_RANGE;"
                + "clearMark(4) = NONE");
        run("promise 23: marks far outside", refused("OUT_OF_RANGE", "clearMark", MIN)
                + refused("OUT_OF_RANGE", "clearMark", MAX));
        run("promise 23: a mark can be taken away once", "setMark(4, 0) = 1; clearMark(4) = 0;"
                + "clearMark(4) = NONE");
        run("promise 23: the other marks of the node stay", type("a") + "insert(0) = 1; setMark(0, 1) = 1;"
                + "setMark(4, 1) = 2; clearMark(0) = 1; clearMark(0) = NONE; goToMark(4) = 1;"
                + "setMark(3, 1) = 2");
        run("promise 23: with all marks set, each is its own", children(5) + "setMark(0, 5) = 1;"
                + "setMark(1, 4) = 1; setMark(2, 3) = 1; setMark(3, 2) = 1; setMark(4, 1) = 1;"
                + "clearMark(5) = OUT_OF_RANGE; clearMark(-1) = OUT_OF_RANGE; clearMark(4) = 1;"
                + "clearMark(0) = 5; clearMark(2) = 3; clearMark(1) = 4; clearMark(3) = 2");
    }

    private static void promise24GoToMark() {
        run("promise 24: 0 is the first mark, -1 is refused", "setMark(0, 0) = 1;"
                + "goToMark(-1) = OUT_OF_RANGE; goToMark(0) = 0; timeOf(0) = 1");
        run("promise 24: 4 is the last mark, 5 is refused", "setMark(4, 0) = 1;"
                + "goToMark(5) = OUT_OF_RANGE; goToMark(4) = 0; timeOf(0) = 1");
        run("promise 24: marks far outside", refused("OUT_OF_RANGE", "goToMark", MIN)
                + refused("OUT_OF_RANGE", "goToMark", MAX));
        run("promise 24: a mark on no node, never set or taken away", "goToMark(2) = NONE;"
                + "setMark(2, 0) = 1; clearMark(2) = 0; goToMark(2) = NONE;" + clockIs(0, 0));
        run("promise 24: to the current node, which becomes current again", type("a")
                + "insert(0) = 1; setMark(1, 1) = 1; goToMark(1) = 1; timeOf(1) = 2; current() = 1");
        run("promise 24: the mark stays on the node", type("a") + "insert(0) = 1; setMark(1, 0) = 1;"
                + "goToMark(1) = 0; redo() = 1; goToMark(1) = 0; clearMark(1) = 0");
        run("promise 24: to where the mark was put last", children(2) + "setMark(3, 1) = 1;"
                + "setMark(3, 2) = 1; goToMark(3) = 2; current() = 2; favouriteOf(0) = 2");
        run("promise 24: the answer is the number of the node, not of the steps", branches()
                + "setMark(0, 4) = 1; goToMark(0) = 4; setMark(1, 0) = 1; goToMark(1) = 0");
    }

    // ---- promises 25 to 27

    private static void promise25OldestLeaf() {
        run("promise 25: the root alone is no such node", "oldestLeaf() = NONE; jump(0) = 0;"
                + "oldestLeaf() = NONE");
        run("promise 25: the current node is none", type("a") + "insert(0) = 1; oldestLeaf() = NONE;"
                + "undo() = 0; oldestLeaf() = 1; redo() = 1; oldestLeaf() = NONE");
        run("promise 25: a node with a mark is none, until the last is taken away", type("a")
                + "insert(0) = 1; undo() = 0; setMark(0, 1) = 1; oldestLeaf() = NONE; setMark(4, 1) = 2;"
                + "clearMark(0) = 1; oldestLeaf() = NONE; clearMark(4) = 1; oldestLeaf() = 1");
        run("promise 25: a node with children is none, until they are forgotten", type("a")
                + "insert(0) = 1; delete(0, 1) = 2; jump(0) = 2; oldestLeaf() = 2; setMark(0, 2) = 1;"
                + "oldestLeaf() = NONE; clearMark(0) = 2; forget(2) = 2; oldestLeaf() = 1");
        run("promise 25: the least time, not the lowest number", children(3) + "oldestLeaf() = 1;"
                + "jump(1) = 1; undo() = 0; oldestLeaf() = 2; jump(2) = 1; undo() = 0; oldestLeaf() = 3;"
                + "jump(3) = 1; undo() = 0; oldestLeaf() = 1");
        run("promise 25: the time when a node became current, not when its child did", branches()
                + "oldestLeaf() = 2; setMark(0, 2) = 1; oldestLeaf() = 4; forget(4) = 5; oldestLeaf() = 3");
        run("promise 25: of 23 nodes, the oldest is the first or the last", wideTree()
                + "oldestLeaf() = 1; jump(22) = 1; jump(1) = 2; jump(0) = 1; oldestLeaf() = 2;"
                + "forget(2) = 23; oldestLeaf() = 3");
        run("promise 25: nothing but marks, the root and the current node", children(3)
                + "setMark(0, 1) = 1; setMark(4, 2) = 1; jump(3) = 1; oldestLeaf() = NONE; undo() = 0;"
                + "oldestLeaf() = 3");
        run("promise 25: it forgets nothing", children(2) + "oldestLeaf() = 1; oldestLeaf() = 1;"
                + "nodeCount() = 3; jump(1) = 1");
    }

    private static void promise26Forget() {
        run("promise 26: the root is refused, current or not, with children or without",
                "forget(0) = WRONG_NODE;" + type("a") + "insert(0) = 1; forget(0) = WRONG_NODE;"
                + "undo() = 0; forget(0) = WRONG_NODE; setMark(0, 0) = 1; forget(0) = WRONG_NODE");
        run("promise 26: the current node is refused", type("a") + "insert(0) = 1;"
                + "forget(1) = WRONG_NODE; undo() = 0; forget(1) = 1");
        run("promise 26: a node with children is refused, until the last is forgotten", branches()
                + "forget(1) = WRONG_NODE; forget(2) = 5; forget(1) = WRONG_NODE; forget(3) = WRONG_NODE;"
                + "forget(4) = 4; forget(3) = 3; forget(1) = 2; nodeCount() = 2");
        run("promise 26: a node with a mark is refused, until the last is taken away", type("a")
                + "insert(0) = 1; undo() = 0; setMark(0, 1) = 1; setMark(4, 1) = 2; forget(1) = WRONG_NODE;"
                + "clearMark(0) = 1; forget(1) = WRONG_NODE; clearMark(4) = 1; forget(1) = 1");
        run("promise 26: a node whose mark was put elsewhere", type("a") + "insert(0) = 1; undo() = 0;"
                + "setMark(2, 1) = 1; forget(1) = WRONG_NODE; setMark(2, 0) = 1; forget(1) = 1;"
                + "clearMark(2) = 0");
        run("promise 26: a node can be forgotten once", type("a") + "insert(0) = 1; undo() = 0;"
                + "forget(1) = 1; forget(1) = NO_SUCH_NODE; nodeCount() = 1");
        run("promise 26: the first number not given and -1 are refused", type("a") + "insert(0) = 1;"
                + "undo() = 0; forget(2) = NO_SUCH_NODE; forget(-1) = NO_SUCH_NODE; nodeCount() = 2");
        run("promise 26: a full tree, down to 23 and to the root", wideTree() + "forget(23) = 23;"
                + "forget(1) = 22; forget(12) = 21; nodeCount() = 21; lengthOf(1) = NO_SUCH_NODE;"
                + "lengthOf(12) = NO_SUCH_NODE; lengthOf(23) = NO_SUCH_NODE; lengthOf(2) = 1; lengthOf(22) = 1");
        run("promise 26: the last child and the last node", deepTree() + "jump(0) = 23;" + forgetDown(23)
                + "nodeCount() = 1; forget(0) = WRONG_NODE; redo() = NONE");
        run("promise 26: all reasons at once", type("a") + "insert(0) = 1; delete(0, 1) = 2; undo() = 1;"
                + "setMark(0, 1) = 1; forget(1) = WRONG_NODE; forget(2) = 2; forget(1) = WRONG_NODE;"
                + "undo() = 0; forget(1) = WRONG_NODE; clearMark(0) = 1; forget(1) = 1");
        run("promise 26: the texts of the others stay", type("abc") + "insert(0) = 1; delete(0, 1) = 2;"
                + "undo() = 1; delete(2, 1) = 3; undo() = 1; forget(2) = 3;" + shows(1, "abc") + shows(3, "ab")
                + type("X") + "insert(1) = 4;" + shows(4, "aXbc") + shows(3, "ab") + "jump(3) = 2;"
                + "undoEdit(3) = 5;" + shows(5, "abc"));
    }

    private static void promise27Digest() {
        run("promise 27: a new object", "digest() = " + hash(emptyTree(0)));
        run("promise 27: it may be negative without being an error, and positive", "digest() = -1487855211470520017;"
                + "append(126) = 1; digest() = 9216720665542534478");
        run("promise 27: the clip, from empty to full", type("abcdef") + "digest() = "
                + hash(emptyTree(6, 97, 98, 99, 100, 101, 102)) + "; clearClip() = 6; digest() = "
                + hash(emptyTree(0)) + "; append(126) = 1; digest() = " + hash(emptyTree(1, 126)));
        run("promise 27: the time and the clock", "jump(0) = 0; digest() = "
                + hash(List.of(1, 0, 0, 0, 0, -7, 1, 0, -7, -7, -7, -7, -7, -7, 1, 0)));
        run("promise 27: each mark has its place, and none is an error code", "setMark(0, 0) = 1; digest() = "
                + hash(List.of(1, 0, 0, 0, 0, -7, 0, 0, -7, 0, -7, -7, -7, -7, 0, 0))
                + "; clearMark(0) = 0; setMark(4, 0) = 1; digest() = "
                + hash(List.of(1, 0, 0, 0, 0, -7, 0, 0, -7, -7, -7, -7, -7, 0, 0, 0)));
        run("promise 27: parent and edit of the root are 0, not error codes", "parentOf(0) = WRONG_NODE;"
                + "editOf(0) = WRONG_NODE; digest() = " + hash(emptyTree(0)));
        run("promise 27: the oldest leaf is asked for", type("a") + "insert(0) = 1; undo() = 0; digest() = "
                + hash(List.of(2, 0, 0, 0, 0, 1, 2, 1, 0, 10, 1, 97, -7, 1, 0, 1, -7, -7, -7, -7, -7, 2, 0)));
        run("promise 27: forgotten nodes are left out, and the next number does not count", type("a")
                + "insert(0) = 1; undo() = 0; forget(1) = 1; digest() = "
                + hash(List.of(1, 0, 0, 0, 0, -7, 2, 0, -7, -7, -7, -7, -7, -7, 2, 0)));
        run("promise 27: a deep tree of 24, far over what a long holds", deepTree() + "digest() = "
                + hash(deepTreeValues()));
        run("promise 27: a full text", text40() + "digest() = " + hash(text40Values()));
        run("promise 27: a refused call leaves it", "digest() = " + hash(emptyTree(0)) + "; undo() = NONE;"
                + "append(31) = OUT_OF_RANGE; forget(0) = WRONG_NODE; setMark(5, 0) = OUT_OF_RANGE; digest() = "
                + hash(emptyTree(0)));
    }

    private static List<Integer> emptyTree(Integer... clip) {
        List<Integer> values = new ArrayList<>(List.of(1, 0, 0, 0, 0, -7, 0, 0, -7, -7, -7, -7, -7, -7, 0));
        values.addAll(Arrays.asList(clip));
        return values;
    }

    private static List<Integer> deepTreeValues() {
        List<Integer> values = new ArrayList<>(List.of(24, 0, 0, 0, 0, 1, 0));
        for (int number = 1; number <= 23; number++) {
            values.addAll(List.of(number, number - 1, 10, number));
            for (int i = 0; i < number; i++) {
                values.add(105);
            }
            values.addAll(List.of(number == 23 ? -7 : number + 1, number));
        }
        values.addAll(List.of(23, -7, -7, -7, -7, -7, -7, 23, 0));
        return values;
    }

    private static List<Integer> text40Values() {
        List<Integer> values = new ArrayList<>(List.of(8, 0, 0, 0, 0, 1, 0));
        String text = "abcdefabcdefabcdefabcdefabcdefabcdefwxyz";
        for (int number = 1; number <= 7; number++) {
            int start = 6 * (number - 1);
            int end = Math.min(start + 6, 40);
            values.addAll(List.of(number, number - 1, 1000 * start + 10 * (end - start), end));
            for (int i = 0; i < end; i++) {
                values.add((int) text.charAt(i));
            }
            values.addAll(List.of(number == 7 ? -7 : number + 1, number));
        }
        values.addAll(List.of(7, -7, -7, -7, -7, -7, -7, 7, 0));
        return values;
    }

    /** Without a bound on the way, so that the overflow that is due is seen to be one. */
    private static long hash(List<Integer> values) {
        BigInteger hash = BigInteger.valueOf(1847);
        for (int value : values) {
            hash = hash.multiply(BigInteger.valueOf(31)).add(BigInteger.valueOf(value));
        }
        return hash.longValue();
    }

    // ---- node numbers, the same for all promises that take one

    /** In the tree are 0, 1 and 3; 2 is forgotten, 4 is the next number. */
    private static void nodesThatDoNotExist() {
        String setup = type("ab") + "insert(0) = 1;" + type("c") + "insert(0) = 2; undo() = 1;"
                + "delete(0, 1) = 3; forget(2) = 3;";
        for (int node : new int[] {MIN, -24, -7, -2, -1, 2, 4, 23, 24, 512, 65536, 65537, MAX}) {
            promisesOfOneNode(setup, node);
            promisesOfANodeAndMore(setup, node);
        }
    }

    private static void promisesOfOneNode(String setup, int node) {
        String[] names = {"jump", "undoEdit", "conflictWith", "lengthOf", "editOf", "parentOf", "favouriteOf",
            "timeOf", "forget"};
        int[] promises = {8, 9, 10, 13, 15, 16, 18, 19, 26};
        for (int i = 0; i < names.length; i++) {
            run("promise " + promises[i] + ": " + names[i] + " of node " + node + ", which does not exist",
                    setup + refused("NO_SUCH_NODE", names[i], node) + "current() = 3; nodeCount() = 3");
        }
    }

    private static void promisesOfANodeAndMore(String setup, int node) {
        run("promise 14: characterOf of node " + node + ", which does not exist", setup
                + refused("NO_SUCH_NODE", "characterOf", node, 0) + refused("NO_SUCH_NODE", "characterOf", node, -1));
        run("promise 17: childOf of node " + node + ", which does not exist", setup
                + refused("NO_SUCH_NODE", "childOf", node, 0) + refused("NO_SUCH_NODE", "childOf", node, -1));
        run("promise 20: commonAncestor with node " + node + ", which does not exist", setup
                + refused("NO_SUCH_NODE", "commonAncestor", node, 1)
                + refused("NO_SUCH_NODE", "commonAncestor", 3, node)
                + refused("NO_SUCH_NODE", "commonAncestor", node, node));
        run("promise 21: distance with node " + node + ", which does not exist", setup
                + refused("NO_SUCH_NODE", "distance", node, 1) + refused("NO_SUCH_NODE", "distance", 3, node)
                + refused("NO_SUCH_NODE", "distance", node, node));
        run("promise 22: setMark on node " + node + ", which does not exist", setup
                + refused("NO_SUCH_NODE", "setMark", 0, node) + refused("NO_SUCH_NODE", "setMark", 4, node)
                + refused("OUT_OF_RANGE", "setMark", 5, node) + refused("OUT_OF_RANGE", "setMark", -1, node));
    }

    // ---- refused calls, where there is much that they could change

    /**
     * The favourites of 0 and 2 are not the children with the greatest numbers, 2 is current and has
     * the text "aXbc", marks are on 1 (two of them), 3 and 4, mark 3 is on none; the clip is "pq".
     */
    private static String rich() {
        return richWithoutClip() + type("pq");
    }

    private static String richWithoutClip() {
        return type("abc") + "insert(0) = 1;" + type("X") + "insert(1) = 2; delete(0, 1) = 3; undo() = 2;"
                + type("Y") + "insert(0) = 4; jump(0) = 3;" + type("z") + "insert(0) = 5;"
                + "jump(3) = 4; undo() = 2; setMark(0, 1) = 1; setMark(1, 4) = 1; setMark(2, 1) = 2;"
                + "setMark(4, 3) = 1;";
    }

    private static void refuses(int promise, String state, String rows, String code, String name, int... values) {
        run("promise " + promise + ": " + call(name, values) + " refused with " + code + " leaves " + state,
                rows + refused(code, name, values));
    }

    private static void refusedEdits() {
        String some = "clip, marks and favourites";
        for (int ch : new int[] {31, 127}) {
            refuses(2, some, rich(), "OUT_OF_RANGE", "append", ch);
        }
        refuses(2, "a full clip, marks and favourites", richWithoutClip() + type("uvwxyz"), "TEXT_FULL", "append", 97);
        refuses(4, "an empty clip, marks and favourites", richWithoutClip(), "NONE", "insert", 0);
        for (int position : new int[] {-1, 5}) {
            refuses(4, some, rich(), "OUT_OF_RANGE", "insert", position);
        }
        refuses(5, some, rich(), "OUT_OF_RANGE", "delete", -1, 1);
        refuses(5, some, rich(), "OUT_OF_RANGE", "delete", 0, 0);
        refuses(5, some, rich(), "OUT_OF_RANGE", "delete", 0, 7);
        refuses(5, some, rich(), "OUT_OF_RANGE", "delete", 3, 2);
        refuses(9, some, rich(), "NO_SUCH_NODE", "undoEdit", 6);
        refuses(9, some, rich(), "WRONG_NODE", "undoEdit", 0);
        refuses(9, some, rich(), "WRONG_NODE", "undoEdit", 3);
        refuses(9, some, rich(), "WRONG_NODE", "undoEdit", 5);
        refuses(9, some, rich(), "CONFLICT", "undoEdit", 1);
    }

    private static void refusedMoves() {
        String some = "clip, marks and favourites";
        refuses(6, some, rich() + "jump(0) = 2;", "NONE", "undo");
        refuses(7, some, rich() + "jump(4) = 1;", "NONE", "redo");
        refuses(8, some, rich(), "NO_SUCH_NODE", "jump", 6);
        refuses(8, some, rich(), "NO_SUCH_NODE", "jump", -1);
        refuses(24, some, rich(), "OUT_OF_RANGE", "goToMark", -1);
        refuses(24, some, rich(), "OUT_OF_RANGE", "goToMark", 5);
        refuses(24, some, rich(), "NONE", "goToMark", 3);
    }

    private static void refusedQuestions() {
        String some = "clip, marks and favourites";
        refuses(10, some, rich(), "NO_SUCH_NODE", "conflictWith", 6);
        refuses(10, some, rich(), "WRONG_NODE", "conflictWith", 0);
        refuses(10, some, rich(), "WRONG_NODE", "conflictWith", 3);
        refuses(10, some, rich(), "NONE", "conflictWith", 2);
        refuses(13, some, rich(), "NO_SUCH_NODE", "lengthOf", 6);
        refuses(14, some, rich(), "NO_SUCH_NODE", "characterOf", 6, 0);
        refuses(14, some, rich(), "OUT_OF_RANGE", "characterOf", 2, 4);
        refuses(14, some, rich(), "OUT_OF_RANGE", "characterOf", 2, -1);
        refuses(15, some, rich(), "NO_SUCH_NODE", "editOf", 6);
        refuses(15, some, rich(), "WRONG_NODE", "editOf", 0);
        refuses(16, some, rich(), "NO_SUCH_NODE", "parentOf", 6);
        refuses(16, some, rich(), "WRONG_NODE", "parentOf", 0);
        refuses(17, some, rich(), "NO_SUCH_NODE", "childOf", 6, 0);
        refuses(17, some, rich(), "NONE", "childOf", 2, 2);
        refuses(17, some, rich(), "NONE", "childOf", 2, -1);
        refuses(18, some, rich(), "NO_SUCH_NODE", "favouriteOf", 6);
        refuses(18, some, rich(), "NONE", "favouriteOf", 4);
        refuses(19, some, rich(), "NO_SUCH_NODE", "timeOf", 6);
        refuses(20, some, rich(), "NO_SUCH_NODE", "commonAncestor", 2, 6);
        refuses(20, some, rich(), "NO_SUCH_NODE", "commonAncestor", 6, 2);
        refuses(21, some, rich(), "NO_SUCH_NODE", "distance", 2, 6);
        refuses(21, some, rich(), "NO_SUCH_NODE", "distance", 6, 2);
        refuses(25, some, rich() + "jump(5) = 3;", "NONE", "oldestLeaf");
    }

    private static void refusedMarksAndForgetting() {
        String some = "clip, marks and favourites";
        refuses(22, some, rich(), "OUT_OF_RANGE", "setMark", -1, 2);
        refuses(22, some, rich(), "OUT_OF_RANGE", "setMark", 5, 2);
        for (int mark = 0; mark < 5; mark++) {
            refuses(22, some, rich(), "NO_SUCH_NODE", "setMark", mark, 6);
        }
        refuses(23, some, rich(), "OUT_OF_RANGE", "clearMark", -1);
        refuses(23, some, rich(), "OUT_OF_RANGE", "clearMark", 5);
        refuses(23, some, rich(), "NONE", "clearMark", 3);
        refuses(26, some, rich(), "NO_SUCH_NODE", "forget", 6);
        for (int node = 0; node < 5; node++) {
            refuses(26, some, rich(), "WRONG_NODE", "forget", node);
        }
    }

    /** 24 nodes; 20 is current and has 40 characters; favourites, marks and clip as in rich. */
    private static String richAndFull() {
        return text40() + "delete(39, 1) = 8; undo() = 7; delete(0, 1) = 9; jump(8) = 2;" + type("X")
                + "insert(39) = 10;" + turns(11, 20) + "delete(39, 1) = 21; jump(0) = 20;" + type("r")
                + "insert(0) = 22; undo() = 0;" + type("s") + "insert(0) = 23; jump(20) = 20;"
                + "setMark(0, 1) = 1; setMark(1, 23) = 1; setMark(2, 1) = 2; setMark(4, 21) = 1;" + type("pq");
    }

    private static void refusedInFullTree() {
        String all = "a full tree with marks";
        refuses(2, all, richAndFull() + "append(114) = 3; append(115) = 4; append(116) = 5; append(117) = 6;",
                "TEXT_FULL", "append", 97);
        refuses(4, all, richAndFull(), "OUT_OF_RANGE", "insert", 41);
        refuses(4, all, richAndFull(), "TEXT_FULL", "insert", 0);
        refuses(4, all, richAndFull() + "jump(6) = 13;", "TREE_FULL", "insert", 0);
        refuses(4, all, richAndFull() + "clearClip() = 2;", "NONE", "insert", 0);
        refuses(5, all, richAndFull(), "OUT_OF_RANGE", "delete", 40, 1);
        refuses(5, all, richAndFull(), "TREE_FULL", "delete", 0, 1);
        refuses(9, all, richAndFull(), "NO_SUCH_NODE", "undoEdit", 24);
        refuses(9, all, richAndFull(), "WRONG_NODE", "undoEdit", 9);
        refuses(9, all, richAndFull(), "CONFLICT", "undoEdit", 7);
        refuses(9, all, richAndFull(), "TEXT_FULL", "undoEdit", 19);
        refuses(9, all, richAndFull(), "TREE_FULL", "undoEdit", 20);
        refuses(26, all, richAndFull(), "WRONG_NODE", "forget", 23);
    }
}
