/** Runs of calls on new objects, at least one for each promise. */
public final class EditTreePromises extends CallRuns {
    public static void main(String[] args) {
        constants();
        examples();
        newObject();
        append();
        clearClip();
        insert();
        delete();
        undoAndRedo();
        jump();
        undoEditOfInsertions();
        undoEditOfDeletions();
        undoEditErrors();
        conflictWith();
        currentAndNodeCount();
        textOfNodes();
        editOf();
        parentOf();
        childOf();
        favouriteOf();
        timeOf();
        ancestors();
        marks();
        goToMark();
        oldestLeaf();
        forget();
        numbersAfterForgetting();
        wrongNodes();
        digest();
        twoObjects();
        end();
    }

    // ---- the document's face and examples

    private static void constants() {
        due("OUT_OF_RANGE", EditTree.OUT_OF_RANGE, -1);
        due("NO_SUCH_NODE", EditTree.NO_SUCH_NODE, -2);
        due("TREE_FULL", EditTree.TREE_FULL, -3);
        due("TEXT_FULL", EditTree.TEXT_FULL, -4);
        due("CONFLICT", EditTree.CONFLICT, -5);
        due("WRONG_NODE", EditTree.WRONG_NODE, -6);
        due("NONE", EditTree.NONE, -7);
    }

    private static void examples() {
        run("example 1", "append(97) = 1; append(98) = 2; insert(0) = 1; append(99) = 1;"
                + "insert(1) = 2; lengthOf(2) = 3; characterOf(2, 1) = 99; undoEdit(1) = -5;"
                + "conflictWith(1) = 2; undoEdit(2) = 3; editOf(3) = 1011; characterOf(3, 1) = 98");
        run("example 2", "append(120) = 1; insert(0) = 1; undo() = 0; append(121) = 1;"
                + "insert(0) = 2; childOf(0, 1) = 2; favouriteOf(0) = 2; jump(1) = 2;"
                + "favouriteOf(0) = 1; commonAncestor(1, 2) = 0; distance(1, 2) = 2; timeOf(1) = 4");
        run("example 3", "undo() = -7; redo() = -7; insert(0) = -7; append(97) = 1;"
                + "insert(1) = -1; insert(0) = 1; delete(0, 2) = -1; delete(0, 1) = 2;"
                + "editOf(2) = 11; undoEdit(0) = -6; undoEdit(1) = -5; forget(0) = -6");
        run("example 4", "append(97) = 1; insert(0) = 1; undo() = 0; append(98) = 1;"
                + "insert(0) = 2; oldestLeaf() = 1; setMark(0, 1) = 1; oldestLeaf() = -7;"
                + "clearMark(0) = 1; forget(1) = 2; nodeCount() = 2; jump(1) = -2");
    }

    // ---- promises 1 to 5

    private static void newObject() {
        run("promise 1", "current() = 0; nodeCount() = 1; lengthOf(0) = 0; timeOf(0) = 0;"
                + "favouriteOf(0) = NONE; childOf(0, 0) = NONE; parentOf(0) = WRONG_NODE;"
                + "editOf(0) = WRONG_NODE; oldestLeaf() = NONE; clearClip() = 0; undo() = NONE;"
                + "redo() = NONE; clearMark(0) = NONE; clearMark(4) = NONE; goToMark(2) = NONE");
    }

    private static void append() {
        run("promise 2", "append(31) = OUT_OF_RANGE; append(127) = OUT_OF_RANGE;"
                + "append(-1) = OUT_OF_RANGE; append(0) = OUT_OF_RANGE;"
                + call("append", MIN) + " = OUT_OF_RANGE;" + call("append", MAX) + " = OUT_OF_RANGE;"
                + call("append", 65536 + 97) + " = OUT_OF_RANGE;"
                + "append(32) = 1; append(126) = 2; append(33) = 3; append(125) = 4; append(97) = 5;"
                + "append(98) = 6; append(99) = TEXT_FULL; append(32) = TEXT_FULL;"
                + "append(31) = OUT_OF_RANGE; append(127) = OUT_OF_RANGE; insert(0) = 1;"
                + shows(1, " ~!}ab"));
    }

    private static void clearClip() {
        run("promise 3", "clearClip() = 0;" + type("abc") + "clearClip() = 3; clearClip() = 0;"
                + "insert(0) = NONE;" + type("uvwxyz") + "append(97) = TEXT_FULL; clearClip() = 6;"
                + type("de") + "insert(0) = 1; clearClip() = 0;" + shows(1, "de"));
    }

    private static void insert() {
        run("promise 4", type("ab") + "insert(-1) = OUT_OF_RANGE; insert(1) = OUT_OF_RANGE;"
                + call("insert", MIN) + " = OUT_OF_RANGE;" + call("insert", MAX) + " = OUT_OF_RANGE;"
                + "insert(0) = 1; insert(0) = NONE; insert(9) = NONE;"
                + type("c") + "insert(3) = OUT_OF_RANGE; insert(2) = 2; current() = 2;"
                + type("d") + "insert(0) = 3;" + type("XYZ") + "insert(2) = 4;"
                + shows(0, "") + shows(1, "ab") + shows(2, "abc") + shows(3, "dabc")
                + shows(4, "daXYZbc") + "parentOf(4) = 3; timeOf(4) = 4; favouriteOf(3) = 4;"
                + "append(97) = 1");
        run("promise 4, a text of 40", text36() + type("12345") + "insert(37) = OUT_OF_RANGE;"
                + "insert(36) = TEXT_FULL; insert(0) = TEXT_FULL; clearClip() = 5;"
                + type("1234") + "insert(36) = 7; lengthOf(7) = 40; characterOf(7, 39) = 52;"
                + "characterOf(7, 35) = 102; characterOf(7, 40) = OUT_OF_RANGE;"
                + "append(97) = 1; insert(40) = TEXT_FULL; insert(41) = OUT_OF_RANGE;"
                + "delete(0, 1) = 8; insert(39) = 9; lengthOf(9) = 40; characterOf(9, 39) = 97;"
                + "append(98) = 1; insert(0) = TEXT_FULL; undo() = 8; insert(0) = 10;"
                + "characterOf(10, 0) = 98; lengthOf(10) = 40");
        run("promise 4, a tree of 24", deepTree() + "nodeCount() = 24; insert(0) = NONE;"
                + "append(97) = 1; insert(24) = OUT_OF_RANGE; insert(23) = TREE_FULL;"
                + "insert(0) = TREE_FULL; jump(0) = 23; insert(0) = TREE_FULL; clearClip() = 1");
        run("promise 4, a text of 40 and a tree of 24", fullTextInFullTree()
                + "append(97) = 1; insert(41) = OUT_OF_RANGE; insert(3) = TEXT_FULL;"
                + "undo() = 22; insert(39) = TREE_FULL");
    }

    private static void delete() {
        run("promise 5", "delete(0, 1) = OUT_OF_RANGE;" + type("abcdef") + "insert(0) = 1;"
                + type("gh") + "insert(6) = 2; delete(-1, 1) = OUT_OF_RANGE;"
                + "delete(0, 0) = OUT_OF_RANGE; delete(0, 7) = OUT_OF_RANGE;"
                + "delete(0, -1) = OUT_OF_RANGE; delete(8, 1) = OUT_OF_RANGE;"
                + "delete(8, 0) = OUT_OF_RANGE; delete(7, 2) = OUT_OF_RANGE;"
                + "delete(3, 6) = OUT_OF_RANGE; delete(-1, 6) = OUT_OF_RANGE;"
                + call("delete", MAX, 1) + " = OUT_OF_RANGE;" + call("delete", MAX, 6) + " = OUT_OF_RANGE;"
                + call("delete", MAX, MAX) + " = OUT_OF_RANGE;" + call("delete", 1, MAX) + " = OUT_OF_RANGE;"
                + call("delete", MIN, 6) + " = OUT_OF_RANGE;" + call("delete", 0, MIN) + " = OUT_OF_RANGE;"
                + call("delete", MIN, MIN) + " = OUT_OF_RANGE;"
                + "delete(7, 1) = 3; current() = 3;" + shows(3, "abcdefg") + "delete(0, 1) = 4;"
                + shows(4, "bcdefg") + "delete(2, 2) = 5;" + shows(5, "bcfg")
                + "jump(2) = 3; delete(2, 6) = 6;" + shows(6, "ab") + "undo() = 2;"
                + "delete(1, 6) = 7;" + shows(7, "ah") + "delete(0, 2) = 8;" + shows(8, "")
                + shows(2, "abcdefgh") + "delete(0, 1) = OUT_OF_RANGE; timeOf(8) = 10;"
                + "parentOf(7) = 2; favouriteOf(2) = 7");
        run("promise 5, the clip stays", type("ab") + "insert(0) = 1;" + type("cd")
                + "delete(0, 1) = 2; clearClip() = 2");
        run("promise 5, a tree of 24", deepTree() + "delete(23, 1) = OUT_OF_RANGE;"
                + "delete(0, 7) = OUT_OF_RANGE; delete(0, 1) = TREE_FULL; delete(17, 6) = TREE_FULL;"
                + "jump(0) = 23; delete(0, 1) = OUT_OF_RANGE");
    }

    // ---- promises 6 to 8

    private static void undoAndRedo() {
        run("promise 6", "undo() = NONE;" + type("a") + "undo() = NONE; insert(0) = 1;" + type("b")
                + "insert(0) = 2; undo() = 1; current() = 1; timeOf(1) = 3; undo() = 0;"
                + "current() = 0; timeOf(0) = 4; undo() = NONE; timeOf(0) = 4; favouriteOf(0) = 1;"
                + "favouriteOf(1) = 2; nodeCount() = 3");
        run("promise 7", "redo() = NONE;" + type("a") + "insert(0) = 1; redo() = NONE;" + type("b")
                + "insert(0) = 2; undo() = 1;" + type("c") + "insert(0) = 3; redo() = NONE;"
                + "undo() = 1; undo() = 0; redo() = 1; current() = 1; timeOf(1) = 7; redo() = 3;"
                + "timeOf(3) = 8; redo() = NONE; jump(2) = 2; jump(0) = 2; redo() = 1; redo() = 2;"
                + "current() = 2; timeOf(2) = 12");
    }

    private static void jump() {
        run("promise 8", "jump(0) = 0; timeOf(0) = 1; jump(1) = NO_SUCH_NODE;" + type("a")
                + "insert(0) = 1; timeOf(1) = 2;" + type("b") + "insert(0) = 2;" + type("c")
                + "insert(0) = 3; jump(1) = 2; current() = 1; timeOf(1) = 5;" + type("d")
                + "insert(0) = 4; jump(3) = 3; favouriteOf(1) = 2; favouriteOf(2) = 3; timeOf(3) = 7;"
                + "jump(3) = 0; timeOf(3) = 8; jump(4) = 3; timeOf(4) = 9; favouriteOf(1) = 4;"
                + "timeOf(2) = 3; timeOf(1) = 5; jump(0) = 2; jump(3) = 3; current() = 3;"
                + "jump(5) = NO_SUCH_NODE; jump(-1) = NO_SUCH_NODE; timeOf(3) = 11");
    }

    // ---- promises 9 and 10

    /** Node 2 inserts "abc" between "-" and "+", so that it lies from 1 to 4 in "-abc+". */
    private static String block() {
        return type("-+") + "insert(0) = 1;" + type("abc") + "insert(1) = 2;";
    }

    private static void undoEditOfInsertions() {
        run("promise 9, the last edit", block() + "undoEdit(2) = 3; editOf(3) = 1031;"
                + shows(3, "-+") + "parentOf(3) = 2; current() = 3; timeOf(3) = 3;"
                + "favouriteOf(2) = 3; undoEdit(3) = 4; editOf(4) = 1030;" + shows(4, "-abc+"));
        run("insertion before", block() + type("XY") + "insert(0) = 3; conflictWith(2) = NONE;"
                + "undoEdit(2) = 4; editOf(4) = 3031;" + shows(4, "XY-+"));
        run("insertion at the start", block() + type("XY") + "insert(1) = 3; conflictWith(2) = NONE;"
                + "undoEdit(2) = 4; editOf(4) = 3031;" + shows(4, "-XY+"));
        run("insertion inside, at first", block() + type("X") + "insert(2) = 3;"
                + "conflictWith(2) = 3; undoEdit(2) = CONFLICT; undoEdit(3) = 4;" + shows(4, "-abc+"));
        run("insertion inside, at last", block() + type("X") + "insert(3) = 3;"
                + "conflictWith(2) = 3; undoEdit(2) = CONFLICT");
        run("insertion at the end", block() + type("X") + "insert(4) = 3; conflictWith(2) = NONE;"
                + "undoEdit(2) = 4; editOf(4) = 1031;" + shows(4, "-X+"));
        run("insertion behind", block() + type("X") + "insert(5) = 3; undoEdit(2) = 4;"
                + "editOf(4) = 1031;" + shows(4, "-+X"));
        run("deletion before", block() + "delete(0, 1) = 3; conflictWith(2) = NONE;"
                + "undoEdit(2) = 4; editOf(4) = 31;" + shows(4, "+"));
        run("deletion over the start", block() + "delete(0, 2) = 3; conflictWith(2) = 3;"
                + "undoEdit(2) = CONFLICT");
        run("deletion inside", block() + "delete(2, 1) = 3; conflictWith(2) = 3;"
                + "undoEdit(2) = CONFLICT");
        run("deletion of the same", block() + "delete(1, 3) = 3; conflictWith(2) = 3;"
                + "undoEdit(2) = CONFLICT");
        run("deletion around", block() + "delete(0, 5) = 3; conflictWith(2) = 3;"
                + "undoEdit(2) = CONFLICT; conflictWith(1) = 2");
        run("deletion over the end", block() + "delete(3, 2) = 3; conflictWith(2) = 3;"
                + "undoEdit(2) = CONFLICT");
        run("deletion at the end", block() + "delete(4, 1) = 3; conflictWith(2) = NONE;"
                + "undoEdit(2) = 4; editOf(4) = 1031;" + shows(4, "-"));
        run("several later edits", block() + type("UV") + "insert(0) = 3; delete(1, 1) = 4;"
                + type("W") + "insert(5) = 5;" + type("T") + "insert(2) = 6; conflictWith(2) = NONE;"
                + shows(6, "U-TabcW+") + "undoEdit(2) = 7; editOf(7) = 3031;" + shows(7, "U-TW+"));
        run("only the path counts", block() + type("X") + "insert(2) = 3; undo() = 2;" + type("Y")
                + "insert(0) = 4; conflictWith(2) = NONE; undoEdit(2) = 5;" + shows(5, "Y-+")
                + "jump(3) = 3; conflictWith(2) = 3; undo() = 2; undoEdit(2) = 6;"
                + shows(6, "-+"));
        run("edits behind the current node do not count", block() + type("X")
                + "insert(2) = 3; undo() = 2; favouriteOf(2) = 3; conflictWith(2) = NONE;"
                + "undoEdit(2) = 4; editOf(4) = 1031");
    }

    /** Node 2 deletes "bc" from "-abcd+", which leaves a gap at 2 of "-ad+". */
    private static String gap() {
        return type("-abcd+") + "insert(0) = 1; delete(2, 2) = 2;";
    }

    private static void undoEditOfDeletions() {
        run("promise 9, the last deletion", gap() + "undoEdit(2) = 3; editOf(3) = 2020;"
                + shows(3, "-abcd+") + "timeOf(3) = 3; current() = 3; parentOf(3) = 2");
        run("gap, insertion before", gap() + type("XY") + "insert(1) = 3; conflictWith(2) = NONE;"
                + "undoEdit(2) = 4; editOf(4) = 4020;" + shows(4, "-XYabcd+"));
        run("gap, insertion at it", gap() + type("XY") + "insert(2) = 3; conflictWith(2) = NONE;"
                + "undoEdit(2) = 4; editOf(4) = 2020;" + shows(4, "-abcXYd+"));
        run("gap, insertion behind", gap() + type("X") + "insert(3) = 3; undoEdit(2) = 4;"
                + "editOf(4) = 2020;" + shows(4, "-abcdX+"));
        run("gap, deletion before", gap() + "delete(0, 1) = 3; undoEdit(2) = 4; editOf(4) = 1020;"
                + shows(4, "abcd+"));
        run("gap, deletion up to it", gap() + "delete(0, 2) = 3; conflictWith(2) = NONE;"
                + "undoEdit(2) = 4; editOf(4) = 20;" + shows(4, "bcd+"));
        run("gap, deletion over it", gap() + "delete(1, 2) = 3; conflictWith(2) = 3;"
                + "undoEdit(2) = CONFLICT; undoEdit(3) = 4;" + shows(4, "-ad+"));
        run("gap, deletion of all", gap() + "delete(0, 4) = 3; conflictWith(2) = 3;"
                + "undoEdit(2) = CONFLICT");
        run("gap, deletion from it on", gap() + "delete(2, 2) = 3; conflictWith(2) = NONE;"
                + "undoEdit(2) = 4; editOf(4) = 2020;" + shows(4, "-abc"));
        run("gap, several later edits", gap() + type("UV") + "insert(0) = 3; delete(0, 1) = 4;"
                + type("W") + "insert(4) = 5; undoEdit(2) = 6; editOf(6) = 3020;"
                + shows(6, "V-abcdW+"));
        run("the undo of an undo", type("abcdef") + "insert(0) = 1; delete(0, 6) = 2;"
                + "undoEdit(2) = 3; conflictWith(1) = 2; undoEdit(3) = 4; editOf(4) = 61;"
                + shows(4, "") + "undoEdit(2) = 5;" + shows(5, "abcdef") + "undoEdit(4) = 6;"
                + shows(6, "abcdefabcdef"));
    }

    private static void undoEditErrors() {
        run("promise 9, wrong nodes", "undoEdit(0) = WRONG_NODE; undoEdit(1) = NO_SUCH_NODE;"
                + "undoEdit(-1) = NO_SUCH_NODE;" + type("a") + "insert(0) = 1;" + type("b")
                + "insert(0) = 2; undoEdit(0) = WRONG_NODE; undo() = 1;" + type("c")
                + "insert(0) = 3; undoEdit(2) = WRONG_NODE; undo() = 1; undoEdit(2) = WRONG_NODE;"
                + "undoEdit(3) = WRONG_NODE; forget(2) = 3; undoEdit(2) = NO_SUCH_NODE;"
                + "undoEdit(1) = 4;" + shows(4, ""));
        run("promise 9, the clip stays", type("ab") + "insert(0) = 1;" + type("cde")
                + "undoEdit(1) = 2; clearClip() = 3");
        run("promise 9, a text of 40", text36() + "delete(0, 2) = 7;" + type("uvwxyz")
                + "insert(34) = 8; conflictWith(7) = NONE; undoEdit(7) = TEXT_FULL;"
                + "delete(33, 1) = 9; undoEdit(7) = TEXT_FULL; delete(33, 1) = 10;"
                + "undoEdit(7) = 11; lengthOf(11) = 40; characterOf(11, 0) = 97;"
                + "undoEdit(9) = TEXT_FULL; undoEdit(8) = CONFLICT");
        run("promise 9, conflict before text full", text36() + "delete(1, 1) = 7; delete(0, 2) = 8;"
                + type("uvwxyz") + "insert(33) = 9;" + type("z") + "insert(39) = 10;"
                + "undoEdit(7) = CONFLICT; undoEdit(8) = TEXT_FULL; undoEdit(10) = 11");
        run("promise 9, a tree of 24", deepTree() + "undoEdit(24) = NO_SUCH_NODE;"
                + "undoEdit(0) = WRONG_NODE; conflictWith(23) = NONE; undoEdit(23) = TREE_FULL;"
                + "undo() = 22; undoEdit(23) = WRONG_NODE; undoEdit(22) = TREE_FULL;"
                + "forget(23) = 23; undoEdit(22) = 24");
        run("promise 9, conflict before tree full", type("ab") + "insert(0) = 1;" + type("c")
                + "insert(1) = 2;" + inserts(3, 23) + "nodeCount() = 24; undoEdit(1) = CONFLICT;"
                + "undoEdit(2) = TREE_FULL");
        run("promise 9, text full before tree full", text36() + "delete(0, 1) = 7;"
                + type("12345") + "insert(35) = 8;" + turns(9, 23) + "nodeCount() = 24;"
                + "lengthOf(23) = 39; jump(8) = 15; undoEdit(7) = TEXT_FULL; undoEdit(8) = TREE_FULL");
    }

    private static void conflictWith() {
        run("promise 10", "conflictWith(0) = WRONG_NODE; conflictWith(1) = NO_SUCH_NODE;"
                + "conflictWith(-7) = NO_SUCH_NODE;" + block() + "conflictWith(2) = NONE;"
                + "conflictWith(1) = 2;" + type("X") + "insert(0) = 3;" + type("Y")
                + "insert(3) = 4; delete(0, 6) = 5; conflictWith(1) = 2; conflictWith(2) = 4;"
                + "conflictWith(3) = 5; conflictWith(4) = 5; conflictWith(5) = NONE;"
                + "conflictWith(0) = WRONG_NODE; undo() = 4; conflictWith(3) = NONE;"
                + "conflictWith(2) = 4; conflictWith(5) = WRONG_NODE; undo() = 3;"
                + "conflictWith(2) = NONE; conflictWith(4) = WRONG_NODE; conflictWith(6) = NO_SUCH_NODE;"
                + "jump(1) = 2; conflictWith(1) = NONE; jump(4) = 3; forget(5) = 5;"
                + "conflictWith(5) = NO_SUCH_NODE");
        run("promise 10, no room is needed", fullTextInFullTree() + "conflictWith(23) = NONE;"
                + "conflictWith(22) = NONE; undoEdit(23) = TREE_FULL; undoEdit(22) = TEXT_FULL");
    }

    // ---- promises 11 to 21

    private static void currentAndNodeCount() {
        run("promises 11 and 12", "current() = 0; nodeCount() = 1;" + type("a")
                + "nodeCount() = 1; insert(0) = 1; current() = 1; nodeCount() = 2; delete(0, 1) = 2;"
                + "current() = 2; nodeCount() = 3; undoEdit(2) = 3; current() = 3; nodeCount() = 4;"
                + "undo() = 2; current() = 2; redo() = 3; current() = 3; jump(1) = 2; current() = 1;"
                + "setMark(0, 3) = 1; current() = 1; goToMark(0) = 3; current() = 3; jump(0) = 3;"
                + "clearMark(0) = 3; forget(3) = 3; nodeCount() = 3; current() = 0; forget(2) = 2;"
                + "forget(1) = 1; nodeCount() = 1");
    }

    private static void textOfNodes() {
        run("promises 13 and 14", "lengthOf(0) = 0; characterOf(0, 0) = OUT_OF_RANGE;"
                + type("hello") + "insert(0) = 1; delete(1, 3) = 2;" + type(" ~") + "insert(1) = 3;"
                + shows(1, "hello") + shows(2, "ho") + shows(3, "h ~o") + "lengthOf(0) = 0;"
                + "characterOf(1, -1) = OUT_OF_RANGE; characterOf(1, 5) = OUT_OF_RANGE;"
                + call("characterOf", 1, MAX) + " = OUT_OF_RANGE;"
                + call("characterOf", 1, MIN) + " = OUT_OF_RANGE;"
                + "characterOf(4, 0) = NO_SUCH_NODE; characterOf(4, -1) = NO_SUCH_NODE;"
                + "characterOf(-1, 99) = NO_SUCH_NODE; lengthOf(4) = NO_SUCH_NODE;"
                + "lengthOf(-1) = NO_SUCH_NODE; jump(2) = 1; forget(3) = 3;"
                + "lengthOf(3) = NO_SUCH_NODE; characterOf(3, 0) = NO_SUCH_NODE;" + shows(2, "ho"));
    }

    private static void editOf() {
        run("promise 15", "editOf(0) = WRONG_NODE; editOf(1) = NO_SUCH_NODE;" + type("abcdef")
                + "insert(0) = 1; editOf(1) = 60;" + type("g") + "insert(6) = 2; editOf(2) = 6010;"
                + "delete(1, 6) = 3; editOf(3) = 1061; delete(0, 1) = 4; editOf(4) = 11;"
                + "undoEdit(4) = 5; editOf(5) = 10; editOf(0) = WRONG_NODE; editOf(6) = NO_SUCH_NODE;"
                + "editOf(-1) = NO_SUCH_NODE; undo() = 4; forget(5) = 5; editOf(5) = NO_SUCH_NODE");
        run("promise 15, far positions", text36() + type("abcd") + "insert(36) = 7;"
                + "editOf(7) = 36040; delete(39, 1) = 8; editOf(8) = 39011; undoEdit(8) = 9;"
                + "editOf(9) = 39010");
        run("promise 15, a place in the tree is used again", type("ab") + "insert(0) = 1;"
                + "delete(0, 2) = 2; undo() = 1; forget(2) = 2;" + type("c") + "insert(1) = 3;"
                + "editOf(3) = 1010; editOf(2) = NO_SUCH_NODE; favouriteOf(3) = NONE;"
                + "parentOf(3) = 1; timeOf(3) = 4;" + shows(3, "acb"));
    }

    private static void parentOf() {
        run("promise 16", "parentOf(0) = WRONG_NODE; parentOf(1) = NO_SUCH_NODE;" + branches()
                + "parentOf(0) = WRONG_NODE; parentOf(1) = 0; parentOf(2) = 1; parentOf(3) = 1;"
                + "parentOf(4) = 3; parentOf(5) = 0; parentOf(6) = NO_SUCH_NODE;"
                + "parentOf(-1) = NO_SUCH_NODE; forget(4) = 5; parentOf(4) = NO_SUCH_NODE;"
                + "parentOf(3) = 1");
    }

    private static void childOf() {
        run("promise 17", "childOf(0, 0) = NONE; childOf(0, -1) = NONE; childOf(1, 0) = NO_SUCH_NODE;"
                + "childOf(1, -1) = NO_SUCH_NODE;" + branches() + "childOf(0, 0) = 1;"
                + "childOf(0, 1) = 5; childOf(0, 2) = NONE; childOf(0, -1) = NONE;"
                + call("childOf", 0, MIN) + " = NONE;" + call("childOf", 0, MAX) + " = NONE;"
                + "childOf(1, 0) = 2; childOf(1, 1) = 3; childOf(1, 2) = NONE; childOf(2, 0) = NONE;"
                + "childOf(3, 0) = 4; childOf(4, 0) = NONE; childOf(6, 0) = NO_SUCH_NODE;"
                + "jump(2) = 3; childOf(1, 0) = 2; forget(5) = 5; childOf(0, 1) = NONE;"
                + "childOf(5, 0) = NO_SUCH_NODE; jump(3) = 2; forget(2) = 4; childOf(1, 0) = 3;"
                + "childOf(1, 1) = NONE;" + type("z") + "jump(1) = 1; insert(0) = 6;"
                + "childOf(1, 0) = 3; childOf(1, 1) = 6; childOf(1, 2) = NONE");
    }

    private static void favouriteOf() {
        run("promise 18", "favouriteOf(0) = NONE; favouriteOf(1) = NO_SUCH_NODE;"
                + "favouriteOf(-1) = NO_SUCH_NODE;" + branches() + "favouriteOf(0) = 5;"
                + "favouriteOf(1) = 3; favouriteOf(3) = 4; favouriteOf(4) = NONE; favouriteOf(5) = NONE;"
                + "jump(2) = 3; favouriteOf(0) = 1; favouriteOf(1) = 2; favouriteOf(3) = 4;"
                + "jump(0) = 2; favouriteOf(0) = 1; favouriteOf(1) = 2; setMark(1, 4) = 1;"
                + "goToMark(1) = 4; favouriteOf(1) = 3; undo() = 3; favouriteOf(3) = 4;"
                + "favouriteOf(6) = NO_SUCH_NODE");
        run("promise 18, deep below", branches() + "favouriteOf(0) = 5; jump(4) = 4;"
                + "favouriteOf(0) = 1; favouriteOf(1) = 3; jump(2) = 3; favouriteOf(1) = 2");
        run("promise 18, a favourite is forgotten", children(4) + "jump(2) = 1; undo() = 0;"
                + "favouriteOf(0) = 2; forget(2) = 4; favouriteOf(0) = 4; redo() = 4; undo() = 0;"
                + "forget(1) = 3; favouriteOf(0) = 4; forget(4) = 2; favouriteOf(0) = 3;"
                + "redo() = 3; undo() = 0; forget(3) = 1; favouriteOf(0) = NONE; redo() = NONE;"
                + "forget(0) = WRONG_NODE;" + type("z") + "insert(0) = 5; favouriteOf(0) = 5;"
                + "jump(2) = NO_SUCH_NODE; favouriteOf(2) = NO_SUCH_NODE");
        run("promise 18, another child is forgotten", children(4) + "jump(2) = 1; undo() = 0;"
                + "forget(4) = 4; favouriteOf(0) = 2; forget(3) = 3; favouriteOf(0) = 2");
    }

    private static void timeOf() {
        run("promise 19", "timeOf(0) = 0; timeOf(1) = NO_SUCH_NODE; timeOf(-1) = NO_SUCH_NODE;"
                + "undo() = NONE; redo() = NONE; insert(0) = NONE;" + type("abc") + "insert(0) = 1;"
                + "timeOf(1) = 1; delete(0, 1) = 2; timeOf(2) = 2; undoEdit(2) = 3; timeOf(3) = 3;"
                + "undo() = 2; timeOf(2) = 4; redo() = 3; timeOf(3) = 5; jump(3) = 0; timeOf(3) = 6;"
                + "setMark(0, 3) = 1; timeOf(3) = 6; goToMark(0) = 3; timeOf(3) = 7;"
                + "goToMark(1) = NONE; goToMark(5) = OUT_OF_RANGE; jump(9) = NO_SUCH_NODE;"
                + "delete(0, 9) = OUT_OF_RANGE; undoEdit(0) = WRONG_NODE; undoEdit(1) = CONFLICT;"
                + "redo() = NONE; clearClip() = 0; clearMark(0) = 3; undo() = 2; timeOf(2) = 8;"
                + "timeOf(1) = 1; timeOf(0) = 0; forget(3) = 3; timeOf(3) = NO_SUCH_NODE;"
                + "jump(0) = 2; timeOf(0) = 9; timeOf(1) = 1");
    }

    private static void ancestors() {
        run("promise 20", branches() + "commonAncestor(2, 4) = 1; commonAncestor(4, 2) = 1;"
                + "commonAncestor(4, 3) = 3; commonAncestor(3, 4) = 3; commonAncestor(4, 4) = 4;"
                + "commonAncestor(4, 5) = 0; commonAncestor(0, 4) = 0; commonAncestor(4, 0) = 0;"
                + "commonAncestor(0, 0) = 0; commonAncestor(1, 2) = 1; commonAncestor(6, 0) = NO_SUCH_NODE;"
                + "commonAncestor(0, 6) = NO_SUCH_NODE; commonAncestor(-1, -1) = NO_SUCH_NODE;"
                + "forget(4) = 5; commonAncestor(4, 4) = NO_SUCH_NODE; commonAncestor(0, 4) = NO_SUCH_NODE;"
                + "commonAncestor(4, 0) = NO_SUCH_NODE");
        run("promise 21", branches() + "distance(2, 4) = 3; distance(4, 2) = 3; distance(4, 3) = 1;"
                + "distance(3, 4) = 1; distance(4, 4) = 0; distance(4, 5) = 4; distance(5, 4) = 4;"
                + "distance(0, 4) = 3; distance(4, 0) = 3; distance(0, 0) = 0; distance(1, 5) = 2;"
                + "distance(6, 0) = NO_SUCH_NODE; distance(0, 6) = NO_SUCH_NODE;"
                + "distance(-1, 0) = NO_SUCH_NODE; forget(4) = 5; distance(4, 4) = NO_SUCH_NODE;"
                + "distance(4, 0) = NO_SUCH_NODE; distance(0, 4) = NO_SUCH_NODE");
        run("promises 20 and 21, a tree of 24", deepTree() + "distance(0, 23) = 23;"
                + "distance(23, 0) = 23; distance(23, 11) = 12; commonAncestor(23, 11) = 11;"
                + "jump(0) = 23; jump(23) = 23");
    }

    // ---- promises 22 to 26

    private static void marks() {
        run("promises 22 and 23", "setMark(-1, 0) = OUT_OF_RANGE; setMark(5, 0) = OUT_OF_RANGE;"
                + "setMark(5, 9) = OUT_OF_RANGE; setMark(-1, -1) = OUT_OF_RANGE;"
                + call("setMark", MIN, 0) + " = OUT_OF_RANGE;" + call("setMark", MAX, 0) + " = OUT_OF_RANGE;"
                + "setMark(0, 1) = NO_SUCH_NODE; setMark(4, -1) = NO_SUCH_NODE;"
                + "setMark(0, 0) = 1; setMark(0, 0) = 1; setMark(4, 0) = 2; setMark(2, 0) = 3;"
                + "setMark(1, 0) = 4; setMark(3, 0) = 5; setMark(3, 0) = 5;" + type("a")
                + "insert(0) = 1; setMark(4, 1) = 1; setMark(0, 1) = 2; setMark(2, 0) = 3;"
                + "setMark(1, 2) = NO_SUCH_NODE; clearMark(-1) = OUT_OF_RANGE;"
                + "clearMark(5) = OUT_OF_RANGE;" + call("clearMark", MIN) + " = OUT_OF_RANGE;"
                + call("clearMark", MAX) + " = OUT_OF_RANGE; clearMark(4) = 1; clearMark(4) = NONE;"
                + "clearMark(0) = 1; clearMark(1) = 0; clearMark(2) = 0; clearMark(2) = NONE;"
                + "setMark(0, 0) = 2; clearMark(3) = 0; clearMark(3) = NONE; timeOf(0) = 0");
    }

    private static void goToMark() {
        run("promise 24", "goToMark(0) = NONE; goToMark(4) = NONE; goToMark(-1) = OUT_OF_RANGE;"
                + "goToMark(5) = OUT_OF_RANGE;" + call("goToMark", MIN) + " = OUT_OF_RANGE;"
                + call("goToMark", MAX) + " = OUT_OF_RANGE;" + branches() + "setMark(0, 4) = 1;"
                + "setMark(4, 2) = 1; goToMark(0) = 4; current() = 4; timeOf(4) = 8;"
                + "favouriteOf(0) = 1; favouriteOf(1) = 3; goToMark(4) = 2; current() = 2;"
                + "timeOf(2) = 9; favouriteOf(1) = 2; goToMark(4) = 2; timeOf(2) = 10;"
                + "setMark(4, 0) = 1; goToMark(4) = 0; timeOf(0) = 11; clearMark(4) = 0;"
                + "goToMark(4) = NONE; goToMark(0) = 4; goToMark(0) = 4; clearMark(0) = 4;"
                + "current() = 4");
    }

    private static void oldestLeaf() {
        run("promise 25", "oldestLeaf() = NONE;" + type("a") + "insert(0) = 1; oldestLeaf() = NONE;"
                + "undo() = 0; oldestLeaf() = 1; redo() = 1; oldestLeaf() = NONE;" + type("b")
                + "insert(0) = 2; oldestLeaf() = NONE; undo() = 1; oldestLeaf() = 2;");
        run("promise 25, four leaves", children(4) + "oldestLeaf() = 1; jump(1) = 1;"
                + "oldestLeaf() = 2; jump(3) = 2; oldestLeaf() = 2; setMark(3, 2) = 1;"
                + "oldestLeaf() = 4; jump(0) = 1; oldestLeaf() = 4; jump(4) = 1; oldestLeaf() = 1;"
                + "setMark(0, 1) = 1; oldestLeaf() = 3; setMark(0, 3) = 1; oldestLeaf() = 1;"
                + "setMark(1, 1) = 1; oldestLeaf() = NONE; clearMark(3) = 2; oldestLeaf() = 2;"
                + "forget(2) = 4; oldestLeaf() = NONE; undo() = 0; oldestLeaf() = 4");
        run("promise 25, not a node with children", branches() + "oldestLeaf() = 2;"
                + "forget(2) = 5; oldestLeaf() = 4; forget(4) = 4; oldestLeaf() = 3;"
                + "forget(3) = 3; oldestLeaf() = 1; forget(1) = 2; oldestLeaf() = NONE");
    }

    private static void forget() {
        run("promise 26", "forget(0) = WRONG_NODE; forget(1) = NO_SUCH_NODE;"
                + "forget(-1) = NO_SUCH_NODE;" + branches() + "forget(5) = WRONG_NODE;"
                + "forget(3) = WRONG_NODE; forget(1) = WRONG_NODE; forget(0) = WRONG_NODE;"
                + "setMark(2, 4) = 1; forget(4) = WRONG_NODE; setMark(2, 2) = 1; forget(2) = WRONG_NODE;"
                + "forget(4) = 5; forget(4) = NO_SUCH_NODE; childOf(3, 0) = NONE; favouriteOf(3) = NONE;"
                + "forget(3) = 4; favouriteOf(1) = 2; clearMark(2) = 2; forget(2) = 3; forget(1) = 2;"
                + "favouriteOf(0) = 5; forget(5) = WRONG_NODE; undo() = 0; forget(5) = 1;"
                + "nodeCount() = 1; current() = 0; forget(0) = WRONG_NODE");
        run("promise 26, the root with a mark", "setMark(0, 0) = 1; forget(0) = WRONG_NODE;"
                + type("a") + "insert(0) = 1; forget(0) = WRONG_NODE; forget(1) = WRONG_NODE");
        run("promise 26, the last of two marks", type("a") + "insert(0) = 1; undo() = 0;"
                + "setMark(0, 1) = 1; setMark(4, 1) = 2; forget(1) = WRONG_NODE; clearMark(0) = 1;"
                + "forget(1) = WRONG_NODE; clearMark(4) = 1; forget(1) = 1; goToMark(4) = NONE");
    }

    private static void numbersAfterForgetting() {
        run("numbers are not given twice", type("a") + "insert(0) = 1; undo() = 0; forget(1) = 1;"
                + type("b") + "insert(0) = 2; delete(0, 1) = 3; undo() = 2; forget(3) = 2;"
                + "undoEdit(2) = 4; nodeCount() = 3; jump(3) = NO_SUCH_NODE; jump(1) = NO_SUCH_NODE");
        run("room after forgetting", deepTree() + "undo() = 22; append(97) = 1; insert(0) = TREE_FULL;"
                + "forget(23) = 23; insert(0) = 24; nodeCount() = 24; delete(0, 1) = TREE_FULL;"
                + "parentOf(24) = 22; childOf(22, 0) = 24; childOf(22, 1) = NONE; lengthOf(24) = 23;"
                + "lengthOf(23) = NO_SUCH_NODE; jump(23) = NO_SUCH_NODE; jump(0) = 23; redo() = 1");
        StringBuilder many = new StringBuilder();
        for (int number = 1; number <= 100; number++) {
            many.append("append(98) = 1; insert(0) = ").append(number).append("; undo() = 0; forget(")
                    .append(number).append(") = 1;");
        }
        run("a hundred numbers", many + "append(98) = 1; insert(0) = 101; nodeCount() = 2;"
                + "timeOf(101) = 201; jump(100) = NO_SUCH_NODE; childOf(0, 0) = 101");
    }

    private static void wrongNodes() {
        for (int node : new int[] {-1, 2, 4, 24, 1000, MIN, MAX}) {
            run("node " + node, type("ab") + "insert(0) = 1;" + type("c") + "insert(0) = 2; undo() = 1;"
                    + "insert(0) = NONE; delete(0, 1) = 3; forget(2) = 3;"
                    + call("jump", node) + " = NO_SUCH_NODE;" + call("undoEdit", node) + " = NO_SUCH_NODE;"
                    + call("conflictWith", node) + " = NO_SUCH_NODE;" + call("lengthOf", node) + " = NO_SUCH_NODE;"
                    + call("characterOf", node, 0) + " = NO_SUCH_NODE;" + call("editOf", node) + " = NO_SUCH_NODE;"
                    + call("parentOf", node) + " = NO_SUCH_NODE;" + call("childOf", node, 0) + " = NO_SUCH_NODE;"
                    + call("favouriteOf", node) + " = NO_SUCH_NODE;" + call("timeOf", node) + " = NO_SUCH_NODE;"
                    + call("commonAncestor", node, 0) + " = NO_SUCH_NODE;"
                    + call("commonAncestor", 1, node) + " = NO_SUCH_NODE;"
                    + call("distance", node, 0) + " = NO_SUCH_NODE;" + call("distance", 1, node) + " = NO_SUCH_NODE;"
                    + call("setMark", 0, node) + " = NO_SUCH_NODE;" + call("setMark", 5, node) + " = OUT_OF_RANGE;"
                    + call("forget", node) + " = NO_SUCH_NODE;");
        }
    }

    // ---- promise 27

    private static void digest() {
        run("promise 27, new", "digest() = " + hash(1, 0, 0, 0, 0, -7, 0, 0, -7, -7, -7, -7, -7, -7, 0, 0));
        run("promise 27, with a clip", type("ab") + "digest() = "
                + hash(1, 0, 0, 0, 0, -7, 0, 0, -7, -7, -7, -7, -7, -7, 0, 2, 97, 98));
        run("promise 27, a tree", type("xyz") + "insert(0) = 1; delete(1, 1) = 2; undo() = 1;"
                + type("~") + "insert(3) = 3; undo() = 1; setMark(1, 3) = 1; setMark(4, 0) = 1;"
                + type(" ") + "digest() = " + hash(4,
                0, 0, 0, 0, 1, 0,
                1, 0, 30, 3, 120, 121, 122, 3, 5,
                2, 1, 1011, 2, 120, 122, -7, 2,
                3, 1, 3010, 4, 120, 121, 122, 126, -7, 4,
                1, 2, -7, 3, -7, -7, 0, 5, 1, 32));
        run("promise 27, after forgetting", type("a") + "insert(0) = 1; undo() = 0; forget(1) = 1;"
                + "digest() = " + hash(1, 0, 0, 0, 0, -7, 2, 0, -7, -7, -7, -7, -7, -7, 2, 0));
    }

    private static void twoObjects() {
        EditTree one = new EditTree();
        EditTree other = new EditTree();
        long before = other.digest();
        one.append(97);
        one.insert(0);
        one.setMark(0, 1);
        due("two objects share nothing", other.digest(), before);
        due("two objects share nothing", other.nodeCount(), 1);
    }

    private static long hash(long... values) {
        long hash = 1847;
        for (long value : values) {
            hash = 31 * hash + value;
        }
        return hash;
    }
}
