/** The boundary cases that the document's "What it is" and "Terms" name, a test for each sentence. */
public final class TermsBoundariesTest {
    private static final int NONE = BinTrees.NONE;
    private static final int[] WILD = {Integer.MIN_VALUE, -1, 0, 3, 4, 40, 300, 301, Integer.MAX_VALUE};

    private static final String MOVE = "MOVE: PASSED OVER (it does nothing), if the OBJECT or the parent is not there, "
        + "the parent is the OBJECT or below it or lies (or what it is below) in THE BIN, "
        + "or an OBJECT would lie deeper than 8 (THE ROOT is 0 deep, its children 1) by it.";
    private static final String MOVED = "Else the OBJECT is taken out of where it is, and put behind the one that is told, "
        + "if that is a child of the parent then (and not the OBJECT), else as the first one; "
        + "where it was last is this parent.";
    private static final String REMOVE = "REMOVE: PASSED OVER, if the OBJECT is not there, or lies in THE BIN itself; "
        + "else it is taken out of where it is (with what is below it), and is the last one in THE BIN.";
    private static final String RESTORE = "RESTORE: PASSED OVER, if the OBJECT does not lie in THE BIN itself; "
        + "else it goes to where it was last, as the last one, if this may be by the rules of a MOVE; "
        + "if not, to THE ROOT, likewise; if this may not be either: PASSED OVER.";
    private static final String COST = "THE COST of a call that tells a NODE of a ROW: how many ROWS that it KNOWS (but UNDOS) "
        + "are behind the first one, in ORDER, that is new or UNDONE by it, that one too: they are judged anew.";

    private static final Check check = new Check("TermsBoundariesTest");

    private TermsBoundariesTest() {
    }

    public static void main(String[] args) {
        atMost512Calls();
        atMost39MoreObjects();
        nodes0To3();
        atMost300Rows();
        knownRowsAndTime();
        orderByTimeThenNode();
        noneBeforeItsMake();
        lastOneIsNoneBeforeItsMake();
        undoOfItsOwnMovesRemovesRestores();
        undoneWhereTheUndoIsKnown();
        treeOfKnownRows();
        whatComesLaterWeighsNothing();
        parentOrBin();
        makeIntoTheBin();
        moveOfWhatIsNotThere();
        moveToAParentThatIsNotThere();
        moveToItself();
        moveBelowItself();
        moveIntoTheBin();
        moveBelowWhatLiesInTheBin();
        moveTooDeep();
        moveOfWhatIsTooHigh();
        movePassedOverDoesNothing();
        moveBehind();
        moveBehindWhatIsNoChild();
        removePassedOver();
        removeActs();
        restorePassedOver();
        restoreToWhereItWasLast();
        restoreToTheRoot();
        restoreUnderTheRootAlwaysFits();
        restoreRemembers();
        judgedAnewByAnEarlierRow();
        costOfNewRows();
        costOfUndos();
        check.end();
    }

    private static void due(String what, long got, long want) {
        check.due(what, got, want);
    }

    private static void children(String what, BinTrees x, int node, int of, int... want) {
        check.children(what, x, node, of, want);
    }

    private static void atMost512Calls() {
        check.sentence("What it is", "An object is used for at most 512 calls after it has been made; what later calls answer is free.");
        BinTrees x = Scenes.rows(300);
        for (int call = 301; call <= 511; call++) {
            due("call " + call, x.total(0), 300);
        }
        due("the 512th call", x.meet(3, 0), 152);
        int came = 0;
        int asked = 0;
        for (int a : WILD) {
            for (int b : WILD) {
                for (int c : WILD) {
                    asked++;
                    came += anyCall(x, a, b, c);
                }
            }
        }
        due("later calls answer something, and none throws", came, asked);
    }

    /** Every method once: 1, if all of them came back. */
    private static int anyCall(BinTrees x, int a, int b, int c) {
        x.make(a);
        x.move(a, b, c, a);
        x.remove(a, b, c == 0);
        x.undo(a, b);
        x.see(a, b);
        x.meet(a, b);
        x.cost(a);
        x.object(a, b, c);
        x.child(a, b, c);
        x.row(a, b);
        x.judged(a, b);
        x.alike(a, b);
        x.total(a);
        return 1;
    }

    private static void atMost39MoreObjects() {
        check.sentence("Terms", "OBJECTS are 0 (THE ROOT), 1, 2, .. (at most 39 more).");
        BinTrees x = Scenes.made(38);
        due("with 38 more", x.total(1), 39);
        due("39 is none yet", x.object(0, 39, 0), NONE);
        due("the 39th", x.make(0), 39);
        due("it is there", x.object(0, 39, 4), 38);
        due("one more", x.make(0), NONE);
        due("by another", x.make(3), NONE);
        due("with 39 more", x.total(1), 40);
        due("all are there", x.total(30), 40);
        due("40 is none", x.object(0, 40, 0), NONE);
        due("THE ROOT is 0", x.object(0, 0, 1), 0);
        due("-1 is none", x.object(0, -1, 1), NONE);
        for (int o = 39; o >= 1; o--) {
            x.move(0, o, 0, NONE);
        }
        due("all 39 under THE ROOT", x.object(0, 0, 2), 39);
        due("the first", x.child(0, 0, 0), 1);
        due("the last", x.child(0, 0, 38), 39);
        due("behind the last", x.child(0, 0, 39), NONE);
    }

    private static void nodes0To3() {
        check.sentence("Terms", "People are NODES 0 .. 3.");
        for (int node : new int[] {-1, 4}) {
            BinTrees x = Scenes.flat(1);
            due("make by " + node, x.make(node), NONE);
            due("move by " + node, x.move(node, 1, 0, NONE), NONE);
            due("remove by " + node, x.remove(node, 1, false), NONE);
            due("undo by " + node, x.undo(node, 2), NONE);
            due("see by " + node, x.see(node, 1), NONE);
            due("meet by " + node, x.meet(node, 0), NONE);
            due("meet with " + node, x.meet(0, node), NONE);
            due("cost of " + node, x.cost(node), NONE);
            due("object of " + node, x.object(node, 0, 1), NONE);
            due("judged by " + node, x.judged(node, 1), NONE);
            check.due("alike " + node, x.alike(node, 0), false);
            due("rows", x.total(0), 2);
        }
        for (int node = 0; node <= 3; node++) {
            BinTrees x = new BinTrees();
            due("make by " + node, x.make(node), 1);
            due("move by " + node, x.move(node, 1, 0, NONE), 2);
            due("remove by " + node, x.remove(node, 1, false), 3);
            due("undo by " + node, x.undo(node, 3), 4);
            due("meet by " + node, x.meet((node + 1) % 4, node), 4);
            due("see by " + node, x.see((node + 2) % 4, 1), 1);
            due("cost of " + node, x.cost(node), 1);
            due("object of " + node, x.object(node, 1, 1), 1);
            due("child of " + node, x.child(node, 0, 0), 1);
            due("judged by " + node, x.judged(node, 3), 3);
            check.due("alike " + node, x.alike(node, (node + 1) % 4), true);
        }
    }

    private static void atMost300Rows() {
        check.sentence("Terms", "A ROW has a number (1, 2, .. as it was made, at most 300), a NODE, a TIME, an OBJECT, a sort.");
        BinTrees x = new BinTrees();
        x.make(3);
        due("the first row is 1", x.total(0), 1);
        due("row 0 is none", x.row(0, 0), NONE);
        due("row 1 of node 3", x.row(1, 1), 3);
        due("row 2 is none yet", x.row(2, 0), NONE);
        due("as they were made, whatever their TIME", x.move(0, 1, 0, NONE), 2);
        due("TIME of row 2", x.row(2, 2), 1);
        BinTrees y = Scenes.rows(299);
        due("rows", y.total(0), 299);
        due("row 300 is none yet", y.row(300, 0), NONE);
        due("the 300th", y.remove(0, 2, false), 300);
        due("its sort", y.row(300, 0), 2);
        due("its OBJECT", y.row(300, 3), 2);
        due("the 301st", y.remove(0, 2, false), NONE);
        due("row 301 is none", y.row(301, 0), NONE);
        due("still so many rows", y.total(0), 300);
    }

    private static void knownRowsAndTime() {
        check.sentence("Terms", "Each NODE KNOWS some ROWS (all it made, and those it saw), and has a TIME: 0 at first; "
            + "when it makes a ROW, that gets 1 more than the NODE's TIME, which becomes this; "
            + "when it sees one, its TIME becomes the ROW's, if that is greater.");
        BinTrees x = new BinTrees();
        due("at first", x.total(20), 0);
        x.make(0);
        due("the first row's", x.row(1, 2), 1);
        due("which becomes this", x.total(20), 1);
        x.make(1);
        due("another's is its own", x.row(2, 2), 1);
        x.see(0, 2);
        due("sees an equal one", x.total(20), 1);
        x.make(1);
        x.make(1);
        x.see(0, 4);
        due("sees a greater one", x.total(20), 3);
        x.see(0, 3);
        due("sees a smaller one", x.total(20), 3);
        x.remove(0, 1, false);
        due("1 more than that", x.row(5, 2), 4);
        x.undo(0, 5);
        due("an UNDO too", x.row(6, 2), 5);
        due("and its node", x.total(20), 5);
        x.move(0, 1, 1, NONE);
        due("one that is PASSED OVER too", x.total(20), 6);
        due("node 1 as before", x.total(21), 3);
        due("knows all it made and saw", x.total(10), 7);
        due("knows none of the others", x.total(11), 3);
        x.meet(2, 0);
        due("the greatest of a meeting", x.total(22), 6);
        due("knows what it saw", x.judged(2, 6), 1);
        BinTrees y = Scenes.made(1);
        for (int row = 2; row <= 300; row++) {
            y.move(0, 1, 0, NONE);
        }
        due("300 rows of one", y.total(20), 300);
    }

    private static void orderByTimeThenNode() {
        check.sentence("Terms", "ROWS are in ORDER by TIME, then NODE.");
        BinTrees x = Scenes.flat(2);
        for (int n = 1; n < 4; n++) {
            x.meet(n, 0);
        }
        int of3 = x.move(3, 1, 2, NONE);
        int of0 = x.move(0, 2, 1, NONE);
        x.meet(0, 3);
        x.meet(3, 0);
        for (int n = 0; n < 4; n += 3) {
            due("equal TIME, the lower NODE is ahead, node " + n, x.judged(n, of0), 1);
            due("equal TIME, the higher NODE is behind, node " + n, x.judged(n, of3), 2);
        }
        BinTrees y = Scenes.flat(2);
        y.meet(3, 0);
        y.make(0);
        int late = y.move(0, 1, 2, NONE);
        int early = y.move(3, 2, 1, NONE);
        due("the lower TIME", y.row(early, 2), 5);
        due("the higher TIME", y.row(late, 2), 6);
        y.meet(0, 3);
        due("the lower TIME is ahead, though of the higher NODE and made later", y.judged(0, early), 1);
        due("the higher TIME is behind: a ring", y.judged(0, late), 2);
    }

    private static void noneBeforeItsMake() {
        check.sentence("Terms", "A ROW's sort: 0 MAKE (of an OBJECT, which is none before that), 1 MOVE of an OBJECT to a parent, "
            + "behind another OBJECT there, or as the first one; 2 REMOVE; 3 RESTORE; 4 UNDO of a ROW of the same NODE (of sort 1 to 3).");
        BinTrees x = Scenes.made(2);
        int ahead = x.move(1, 2, 0, NONE);
        due("ahead of its MAKE", x.row(ahead, 2), 1);
        x.meet(1, 0);
        due("known now, but none before that", x.judged(1, ahead), 2);
        due("it lies in THE BIN", x.object(1, 2, 3), 1);
        int behind = x.move(1, 2, 0, NONE);
        due("behind its MAKE", x.judged(1, behind), 1);
        x.undo(1, behind);
        due("judged anew once more, still none before that", x.judged(1, ahead), 2);
        check.children("once in THE BIN", x, 1, NONE, 1, 2);
        int[] sorts = {x.row(1, 0), x.row(ahead, 0), x.row(x.remove(0, 1, false), 0), x.row(x.remove(0, 1, true), 0),
            x.row(x.undo(0, x.remove(0, 1, false)), 0)};
        for (int sort = 0; sort < sorts.length; sort++) {
            due("sort " + sort, sorts[sort], sort);
        }
    }

    private static void lastOneIsNoneBeforeItsMake() {
        check.sentence("Terms", "THE ROOT alone is there at first.");
        for (int object : new int[] {1, 39}) {
            BinTrees x = Scenes.made(39);
            // Its TIME is 1: ahead of the MAKE of 39, but behind that of 1, which is of TIME 1 too and of NODE 0.
            int early = x.move(1, object, 0, NONE);
            x.meet(1, 0);
            due("early, of " + object, x.judged(1, early), object == 1 ? 1 : 2);
            int late = x.move(1, object, 0, NONE);
            due("late, of " + object, x.judged(1, late), 1);
            x.undo(1, late);
            due("gone through once more, of " + object, x.judged(1, early), object == 1 ? 1 : 2);
            due("each is there once, with " + object, x.total(31), 40);
            due("in THE BIN, with " + object, x.total(41), object == 1 ? 38 : 39);
        }
    }

    private static void undoOfItsOwnMovesRemovesRestores() {
        check.sentence("Terms", "4 UNDO of a ROW of the same NODE (of sort 1 to 3).");
        BinTrees x = Scenes.flat(1);
        x.remove(0, 1, false);
        x.remove(0, 1, true);
        x.meet(1, 0);
        due("sort 0", x.undo(0, 1), NONE);
        for (int row = 2; row <= 4; row++) {
            due("of another NODE, sort " + x.row(row, 0), x.undo(1, row), NONE);
            due("sort " + x.row(row, 0), x.undo(0, row), row + 3);
        }
        due("sort 4", x.undo(0, 5), NONE);
    }

    private static void undoneWhereTheUndoIsKnown() {
        check.sentence("Terms", "A ROW is UNDONE, where an UNDO of it is KNOWN.");
        BinTrees x = Scenes.flat(1);
        x.meet(1, 0);
        x.undo(0, 2);
        due("with the one that knows the UNDO", x.judged(0, 2), 3);
        due("its tree", x.object(0, 1, 3), 1);
        due("not with one that does not", x.judged(1, 2), 1);
        due("that one's tree", x.object(1, 1, 3), 0);
        x.see(1, 3);
        due("now there too", x.judged(1, 2), 3);
        due("now that tree too", x.object(1, 1, 3), 1);
        x.see(2, 3);
        x.see(2, 1);
        due("the UNDO first", x.judged(2, 2), 0);
        x.see(2, 2);
        due("then the ROW", x.judged(2, 2), 3);
        due("it never acted", x.object(2, 1, 3), 1);
    }

    private static void treeOfKnownRows() {
        check.sentence("Terms", "THE TREE OF A NODE comes of the ROWS that it KNOWS and that are not UNDONE there, but for UNDOS, "
            + "one after the other in ORDER; THE ROOT alone is there at first.");
        BinTrees x = Scenes.flat(3);
        due("THE ROOT alone", x.total(31), 1);
        due("THE ROOT is there", x.object(1, 0, 2), 0);
        due("1 is not", x.object(1, 1, 3), NONE);
        int[] backwards = {6, 5, 4, 3, 2, 1};
        for (int row : backwards) {
            x.see(1, row);
        }
        check.due("whatever order they come in", x.alike(0, 1), true);
        x.see(2, 1);
        x.see(2, 2);
        due("what is KNOWN alone", x.total(32), 2);
        x.undo(0, 4);
        // Without row 4, 2 is in THE BIN, and 3 cannot go behind it.
        children("without what is UNDONE", x, 0, 0, 3, 1);
        children("THE BIN", x, 0, NONE, 2);
        children("an UNDO alone changes nothing", x, 3, 0);
        x.see(3, 7);
        due("THE ROOT alone still", x.total(33), 1);
    }

    private static void whatComesLaterWeighsNothing() {
        check.sentence("Terms", "THE TREE OF A NODE comes of the ROWS that it KNOWS and that are not UNDONE there, but for UNDOS, "
            + "one after the other in ORDER; THE ROOT alone is there at first.");
        BinTrees x = Scenes.chain(8);
        x.move(0, 8, 0, NONE);
        x.make(0);
        x.move(0, 9, 8, NONE);
        x.remove(0, 9, false);
        x.remove(0, 9, true);
        due("9 is below 8", x.object(0, 9, 0), 8);
        x.undo(0, x.move(0, 9, 9, NONE));
        // Row 16 took 8 to the deepest place when there was no 9 yet.
        due("judged anew, without what comes later", x.judged(0, 16), 1);
        due("9 is below 8 as before", x.object(0, 9, 0), 8);
    }

    private static void parentOrBin() {
        check.sentence("Terms", "Each OBJECT that is there has a parent (but THE ROOT) or lies in THE BIN, and stands in a row of the children there, "
            + "one after the other; each remembers WHERE IT WAS LAST: a parent.");
        BinTrees x = Scenes.flat(2);
        x.make(0);
        due("THE ROOT has none", x.object(0, 0, 0), NONE);
        due("and does not lie in THE BIN", x.object(0, 0, 3), 0);
        due("and was nowhere", x.object(0, 0, 5), NONE);
        due("a parent", x.object(0, 2, 0), 0);
        due("second in the row", x.object(0, 2, 4), 1);
        due("in THE BIN", x.object(0, 3, 3), 1);
        due("first there", x.object(0, 3, 4), 0);
        x.move(0, 2, 1, NONE);
        x.remove(0, 2, false);
        due("remembers a parent", x.object(0, 2, 5), 1);
        due("second in THE BIN", x.object(0, 2, 4), 1);
    }

    private static void makeIntoTheBin() {
        check.sentence("Terms", "MAKE: it comes into THE BIN, as the last one; where it was last: THE ROOT.");
        BinTrees x = Scenes.flat(1);
        children("THE BIN is empty", x, 0, NONE);
        x.make(0);
        children("alone", x, 0, NONE, 2);
        x.remove(0, 1, false);
        x.make(0);
        children("as the last one", x, 0, NONE, 2, 1, 3);
        due("where it was last", x.object(0, 3, 5), 0);
        due("no parent", x.object(0, 3, 0), NONE);
        due("a MAKE acts", x.judged(0, 5), 1);
        BinTrees y = Scenes.chain(2);
        y.undo(0, 4);
        due("where it was last, when its only MOVE is UNDONE", y.object(0, 2, 5), 0);
    }

    private static void moveOfWhatIsNotThere() {
        check.sentence("Terms", MOVE);
        BinTrees x = Scenes.made(1);
        int row = x.move(1, 1, 0, NONE);
        due("the OBJECT is not there", x.judged(1, row), 2);
        due("nothing came", x.total(31), 1);
    }

    private static void moveToAParentThatIsNotThere() {
        check.sentence("Terms", MOVE);
        BinTrees x = Scenes.made(1);
        x.make(1);
        x.move(1, 2, 0, NONE);
        int row = x.move(1, 2, 1, NONE);
        due("the parent is not there", x.judged(1, row), 2);
        due("it stays", x.object(1, 2, 0), 0);
        x.see(1, 1);
        due("the parent lies in THE BIN now", x.judged(1, row), 2);
    }

    private static void moveToItself() {
        check.sentence("Terms", MOVE);
        BinTrees x = Scenes.flat(1);
        int row = x.move(0, 1, 1, NONE);
        due("the parent is the OBJECT", x.judged(0, row), 2);
        due("it stays", x.object(0, 1, 0), 0);
        x.make(0);
        row = x.move(0, 2, 2, NONE);
        due("the same in THE BIN", x.judged(0, row), 2);
        children("THE BIN as it was", x, 0, NONE, 2);
    }

    private static void moveBelowItself() {
        check.sentence("Terms", MOVE);
        for (int deep = 2; deep <= 8; deep++) {
            BinTrees x = Scenes.chain(deep);
            int row = x.move(0, 1, deep, NONE);
            due("the parent is " + (deep - 1) + " below it", x.judged(0, row), 2);
            due("it stays", x.object(0, 1, 0), 0);
            due("as deep as before", x.object(0, deep, 1), deep);
        }
        BinTrees y = Scenes.chain(3);
        y.remove(0, 1, false);
        int row = y.move(0, 1, 2, NONE);
        due("below it in THE BIN", y.judged(0, row), 2);
        due("up, to the parent of its parent, is no ring", y.judged(0, y.move(0, 3, 0, NONE)), 1);
    }

    private static void moveIntoTheBin() {
        check.sentence("Terms", MOVE);
        BinTrees x = Scenes.flat(1);
        x.make(0);
        int row = x.move(0, 1, 2, NONE);
        due("the parent lies in THE BIN", x.judged(0, row), 2);
        due("it stays", x.object(0, 1, 0), 0);
        x.make(0);
        row = x.move(0, 3, 2, NONE);
        due("both lie in THE BIN", x.judged(0, row), 2);
        children("THE BIN as it was", x, 0, NONE, 2, 3);
        row = x.move(0, 3, 0, NONE);
        due("out of THE BIN is fine", x.judged(0, row), 1);
    }

    private static void moveBelowWhatLiesInTheBin() {
        check.sentence("Terms", MOVE);
        BinTrees x = Scenes.chain(3);
        x.make(0);
        x.move(0, 4, 0, 1);
        x.remove(0, 1, false);
        for (int to = 1; to <= 3; to++) {
            due("what it is below lies in THE BIN, " + to, x.judged(0, x.move(0, 4, to, NONE)), 2);
        }
        due("within what lies in THE BIN", x.judged(0, x.move(0, 3, 1, NONE)), 2);
        due("it stays", x.object(0, 3, 0), 2);
        due("out from below", x.judged(0, x.move(0, 3, 4, NONE)), 1);
        due("out", x.object(0, 3, 3), 0);
    }

    private static void moveTooDeep() {
        check.sentence("Terms", MOVE);
        BinTrees x = Scenes.chain(8);
        due("THE ROOT is 0 deep", x.object(0, 0, 1), 0);
        due("its children 1", x.object(0, 1, 1), 1);
        due("8 is not deeper than 8", x.judged(0, 16), 1);
        due("8 deep", x.object(0, 8, 1), 8);
        x.make(0);
        int row = x.move(0, 9, 8, NONE);
        due("9 is", x.judged(0, row), 2);
        due("it stays in THE BIN", x.object(0, 9, 3), 1);
        row = x.move(0, 9, 7, 8);
        due("beside the deepest", x.judged(0, row), 1);
        children("beside the deepest", x, 0, 7, 8, 9);
        row = x.move(0, 9, 8, NONE);
        due("one down from there", x.judged(0, row), 2);
        children("it stays there", x, 0, 7, 8, 9);
        x.undo(0, 2);
        due("without the first of the chain, nothing is there to go to", x.object(0, 2, 3), 1);
    }

    private static void moveOfWhatIsTooHigh() {
        check.sentence("Terms", MOVE);
        BinTrees x = Scenes.chain(4);
        for (int o = 5; o <= 9; o++) {
            x.make(0);
            x.move(0, o, o == 5 ? 0 : o - 1, NONE);
        }
        int row = x.move(0, 5, 4, NONE);
        due("what is below it would lie 9 deep", x.judged(0, row), 2);
        due("it stays", x.object(0, 5, 0), 0);
        row = x.move(0, 5, 3, NONE);
        due("what is below it lies 8 deep", x.judged(0, row), 1);
        due("8 deep", x.object(0, 9, 1), 8);
        x.remove(0, 5, false);
        row = x.move(0, 5, 4, NONE);
        due("out of THE BIN, 9 deep", x.judged(0, row), 2);
        row = x.move(0, 5, 3, NONE);
        due("out of THE BIN, 8 deep", x.judged(0, row), 1);
        x.make(0);
        x.move(0, 10, 0, NONE);
        row = x.move(0, 1, 10, NONE);
        due("all one deeper", x.judged(0, row), 2);
        x.remove(0, 9, false);
        row = x.move(0, 1, 10, NONE);
        due("what was too deep is gone", x.judged(0, row), 1);
        due("8 deep again", x.object(0, 8, 1), 8);
    }

    private static void movePassedOverDoesNothing() {
        check.sentence("Terms", MOVE);
        BinTrees x = Scenes.chain(3);
        x.make(0);
        x.move(0, 4, 1, 2);
        int[] rows = {x.move(0, 2, 3, NONE), x.move(0, 1, 1, NONE), x.move(0, 1, 4, NONE)};
        for (int row : rows) {
            due("PASSED OVER", x.judged(0, row), 2);
        }
        children("order", x, 0, 1, 2, 4);
        due("where it was last", x.object(0, 2, 5), 1);
        due("where 1 was last", x.object(0, 1, 5), 0);
        due("its TIME counts all the same", x.total(20), 11);
    }

    private static void moveBehind() {
        check.sentence("Terms", MOVED);
        BinTrees x = Scenes.flat(4);
        x.move(0, 4, 0, NONE);
        children("NONE: as the first one", x, 0, 0, 4, 1, 2, 3);
        x.move(0, 4, 0, 3);
        children("behind the last one", x, 0, 0, 1, 2, 3, 4);
        x.move(0, 4, 0, 1);
        children("behind the first one", x, 0, 0, 1, 4, 2, 3);
        x.move(0, 4, 0, 1);
        children("where it is already", x, 0, 0, 1, 4, 2, 3);
        x.move(0, 1, 0, 4);
        children("behind the next one", x, 0, 0, 4, 1, 2, 3);
        x.move(0, 2, 1, NONE);
        x.move(0, 3, 1, 2);
        children("behind the only one", x, 0, 1, 2, 3);
        children("taken out of where it was", x, 0, 0, 4, 1);
        due("where it was last is this parent", x.object(0, 3, 5), 1);
        x.move(0, 3, 0, 1);
        due("and then that one", x.object(0, 3, 5), 0);
        children("taken out again", x, 0, 1, 2);
    }

    private static void moveBehindWhatIsNoChild() {
        check.sentence("Terms", MOVED);
        BinTrees x = Scenes.flat(4);
        x.move(0, 3, 0, 3);
        children("the OBJECT itself", x, 0, 0, 3, 1, 2, 4);
        x.move(0, 4, 0, 4);
        children("the OBJECT itself, the last one", x, 0, 0, 4, 3, 1, 2);
        x.move(0, 4, 0, 4);
        children("the OBJECT itself, the first one", x, 0, 0, 4, 3, 1, 2);
        x.move(0, 4, 0, 0);
        children("THE ROOT", x, 0, 0, 4, 3, 1, 2);
        x.move(0, 1, 2, NONE);
        x.move(0, 3, 0, 1);
        children("a child of another parent", x, 0, 0, 3, 4, 2);
        x.move(0, 4, 2, 3);
        children("a child of the OBJECT's parent, not of this one", x, 0, 2, 4, 1);
        x.move(0, 1, 2, 2);
        children("the parent", x, 0, 2, 1, 4);
        x.make(0);
        x.move(0, 4, 2, 5);
        children("one in THE BIN", x, 0, 2, 4, 1);
        x.make(3);
        x.move(0, 1, 2, 6);
        children("one that is not there", x, 0, 2, 1, 4);
        x.move(0, 2, 0, 1);
        children("one below the OBJECT", x, 0, 0, 2, 3);
        children("THE BIN as it was", x, 0, NONE, 5);
    }

    private static void removePassedOver() {
        check.sentence("Terms", REMOVE);
        BinTrees x = Scenes.flat(2);
        x.make(0);
        due("not there", x.judged(1, x.remove(1, 1, false)), 2);
        due("nothing came", x.total(31), 1);
        due("in THE BIN since its MAKE", x.judged(0, x.remove(0, 3, false)), 2);
        x.remove(0, 1, false);
        children("THE BIN", x, 0, NONE, 3, 1);
        due("in THE BIN already", x.judged(0, x.remove(0, 3, false)), 2);
        children("it stays where it is there", x, 0, NONE, 3, 1);
    }

    private static void removeActs() {
        check.sentence("Terms", REMOVE);
        BinTrees x = Scenes.chain(4);
        due("acts", x.judged(0, x.remove(0, 2, false)), 1);
        children("taken out", x, 0, 1);
        children("with what is below it", x, 0, 2, 3);
        due("what is below it is in THE BIN", x.object(0, 4, 3), 1);
        due("where it was last stays", x.object(0, 2, 5), 1);
        due("one below lies in THE BIN, but not itself", x.judged(0, x.remove(0, 3, false)), 1);
        children("the last one", x, 0, NONE, 2, 3);
        children("taken out there too", x, 0, 2);
        due("where that was last", x.object(0, 3, 5), 2);
        due("the last child of THE ROOT", x.judged(0, x.remove(0, 1, false)), 1);
        children("THE ROOT alone", x, 0, 0);
        children("the last one again", x, 0, NONE, 2, 3, 1);
    }

    private static void restorePassedOver() {
        check.sentence("Terms", RESTORE);
        BinTrees x = Scenes.chain(2);
        due("not there", x.judged(1, x.remove(1, 1, true)), 2);
        due("not in THE BIN", x.judged(0, x.remove(0, 2, true)), 2);
        x.remove(0, 1, false);
        due("below one that lies there", x.judged(0, x.remove(0, 2, true)), 2);
        due("it stays", x.object(0, 2, 0), 1);
        due("in THE BIN itself", x.judged(0, x.remove(0, 1, true)), 1);
        due("a second time", x.judged(0, x.remove(0, 1, true)), 2);
    }

    private static void restoreToWhereItWasLast() {
        check.sentence("Terms", RESTORE);
        BinTrees x = Scenes.flat(3);
        x.move(0, 2, 1, NONE);
        x.move(0, 3, 1, 2);
        x.remove(0, 2, false);
        x.remove(0, 2, true);
        children("as the last one", x, 0, 1, 3, 2);
        children("out of THE BIN", x, 0, NONE);
        x.remove(0, 1, false);
        x.remove(0, 1, true);
        children("to THE ROOT, where it was last", x, 0, 0, 1);
        children("with what is below it", x, 0, 1, 3, 2);
        x.make(0);
        due("a new one", x.judged(0, x.remove(0, 4, true)), 1);
        children("to THE ROOT, as the last one", x, 0, 0, 1, 4);
        BinTrees y = Scenes.chain(8);
        y.remove(0, 8, false);
        y.remove(0, 8, true);
        due("8 deep is not too deep", y.object(0, 8, 0), 7);
        y.remove(0, 6, false);
        y.remove(0, 6, true);
        due("what is below it 8 deep", y.object(0, 8, 1), 8);
    }

    private static void restoreToTheRoot() {
        check.sentence("Terms", RESTORE);
        BinTrees x = Scenes.chain(3);
        x.remove(0, 3, false);
        x.remove(0, 1, false);
        x.make(0);
        x.move(0, 4, 0, NONE);
        due("where it was last is below what lies in THE BIN", x.judged(0, x.remove(0, 3, true)), 1);
        children("as the last one of THE ROOT", x, 0, 0, 4, 3);
        BinTrees y = Scenes.chain(2);
        y.remove(0, 2, false);
        y.remove(0, 1, false);
        due("where it was last lies in THE BIN", y.judged(0, y.remove(0, 2, true)), 1);
        children("THE ROOT has it", y, 0, 0, 2);
        BinTrees z = Scenes.chain(8);
        z.remove(0, 7, false);
        z.make(0);
        z.move(0, 9, 0, 1);
        z.move(0, 1, 9, NONE);
        due("8 would be 9 deep", z.judged(0, z.remove(0, 7, true)), 1);
        children("as the last one, with what is below it", z, 0, 0, 9, 7);
        due("2 deep", z.object(0, 8, 1), 2);
    }

    private static void restoreUnderTheRootAlwaysFits() {
        check.sentence("Terms", RESTORE);
        // Nothing is put below what lies in THE BIN, so it is never too high for THE ROOT: 8 deep is the most.
        BinTrees x = Scenes.chain(8);
        x.remove(0, 1, false);
        due("7 below it, in THE BIN", x.object(0, 8, 1), 7);
        due("acts", x.judged(0, x.remove(0, 1, true)), 1);
        due("8 deep", x.object(0, 8, 1), 8);
        due("under THE ROOT", x.object(0, 1, 0), 0);
    }

    private static void restoreRemembers() {
        check.sentence("Terms", "(Where it was last is that then.)");
        BinTrees x = Scenes.chain(2);
        x.remove(0, 2, false);
        x.remove(0, 1, false);
        due("in THE BIN, as before", x.object(0, 2, 5), 1);
        x.remove(0, 2, true);
        due("THE ROOT now", x.object(0, 2, 5), 0);
        x.remove(0, 1, true);
        x.remove(0, 2, false);
        x.remove(0, 2, true);
        children("so it comes back there, though 1 would do", x, 0, 0, 1, 2);
        x.move(0, 2, 1, NONE);
        x.remove(0, 2, false);
        x.remove(0, 2, true);
        due("where it was last, as before", x.object(0, 2, 5), 1);
        x.remove(0, 2, true);
        due("PASSED OVER: as before", x.object(0, 2, 5), 1);
    }

    private static void judgedAnewByAnEarlierRow() {
        check.sentence("What it is", "what would make a ring, or be too deep, is passed over and judged anew when an earlier row comes or one is undone");
        BinTrees x = Scenes.flat(2);
        x.meet(3, 0);
        int of3 = x.move(3, 2, 1, NONE);
        int of0 = x.move(0, 1, 2, NONE);
        due("acts", x.judged(3, of3), 1);
        x.see(3, of0);
        due("a ring by an earlier row", x.judged(3, of3), 2);
        due("the earlier one acts", x.judged(3, of0), 1);
        x.undo(0, of0);
        x.meet(3, 0);
        due("that one is undone", x.judged(3, of3), 1);
        BinTrees y = Scenes.chain(8);
        y.make(0);
        y.move(0, 9, 0, 1);
        y.meet(3, 0);
        int deep = y.move(3, 1, 9, NONE);
        due("too deep", y.judged(3, deep), 2);
        int gone = y.remove(0, 8, false);
        y.see(3, gone);
        due("an earlier row takes the deepest away", y.judged(3, deep), 1);
        y.undo(0, gone);
        y.meet(3, 0);
        due("and is undone", y.judged(3, deep), 2);
    }

    private static void costOfNewRows() {
        check.sentence("Terms", COST);
        BinTrees x = Scenes.flat(3);
        due("behind all others", x.cost(0), 1);
        due("the only one", x.see(1, 4), 1);
        due("behind it", x.see(1, 6), 1);
        due("between them", x.see(1, 5), 2);
        due("ahead of all", x.see(1, 1), 4);
        due("ahead of all but one", x.see(1, 2), 4);
        due("all are known then", x.see(1, 3), 4);
        x.undo(0, 6);
        x.see(1, 7);
        x.make(2);
        x.see(1, 8);
        // Rows 1 to 6 and 8 (of TIME 1, behind row 1) without the UNDO; row 6 counts, though it is UNDONE.
        due("UNDONE ones count, UNDOS do not", x.cost(1), 6);
        BinTrees y = Scenes.made(1);
        y.move(1, 1, 0, NONE);
        for (int row = 3; row <= 300; row++) {
            y.move(0, 1, 0, NONE);
        }
        due("ahead of 298", y.see(0, 2), 299);
    }

    private static void costOfUndos() {
        check.sentence("Terms", COST);
        BinTrees x = Scenes.flat(3);
        x.undo(0, 6);
        due("of the last row", x.cost(0), 1);
        x.undo(0, 2);
        due("of the second of six", x.cost(0), 5);
        x.see(1, 8);
        due("of a row that is not KNOWN", x.cost(1), 0);
        x.see(1, 6);
        x.see(1, 2);
        due("of a row whose UNDO was KNOWN: it is new", x.cost(1), 2);
        x.see(1, 7);
        due("from the row that is UNDONE on, not from the UNDO", x.cost(1), 1);
        x.see(1, 4);
        due("one between", x.cost(1), 2);
    }
}
