import java.util.function.ToIntFunction;

/** The boundary cases that promises 8 to 14 name, a test for each sentence. */
public final class AnswersBoundariesTest {
    private static final int NONE = BinTrees.NONE;
    /** Neither a NODE nor an OBJECT nor a ROW nor a what nor NONE in any scene here. */
    private static final int[] WILD = {Integer.MIN_VALUE, Integer.MIN_VALUE + 1, -1000, -2, 1000, 65536,
        Integer.MAX_VALUE - 1, Integer.MAX_VALUE};
    private static final int[] NO_NODES = {Integer.MIN_VALUE, -4, -1, 4, 5, 256, Integer.MAX_VALUE};

    private static final String OBJECT = "Of an OBJECT that is there in a NODE's TREE, what 0: its parent (NONE for THE ROOT, or in THE BIN itself), "
        + "1: how deep it is (in THE BIN: below the one that lies there itself), 2: how many children, "
        + "3: 1 if it lies in THE BIN, or what it is below does, else 0, "
        + "4: which one of its parent's children (of THE BIN's, of THE ROOT 0) it is, 5: where it was last (of THE ROOT NONE).";
    private static final String CHILD = "The k-th child of an OBJECT that is there in a NODE's TREE; object NONE: of THE BIN.";
    private static final String ROW = "Of a ROW, what 0: its sort, 1: its NODE, 2: its TIME, 3: its OBJECT (of an UNDO the ROW), "
        + "4, 5: parent and the one behind which (of others NONE).";
    private static final String JUDGED = "How a NODE takes a ROW: 0 it does not KNOW it, 1 it acts, 2 it is PASSED OVER, "
        + "3 it is UNDONE (an UNDO that it KNOWS acts).";
    private static final String ALIKE = "Whether two NODES have the same TREE: the same OBJECTS there, parents, THE BIN, orders.";
    private static final String TOTAL = "What 0: ROWS, 1: OBJECTS with THE ROOT, 10 + n: ROWS that NODE n KNOWS, 20 + n: its TIME, "
        + "30 + n: OBJECTS there in its TREE, 40 + n: in THE BIN itself.";

    private static final Check check = new Check("AnswersBoundariesTest");

    private AnswersBoundariesTest() {
    }

    public static void main(String[] args) {
        promise8LatestRow();
        promise8Refused();
        promise9Root();
        promise9Parent();
        promise9Deep();
        promise9Children();
        promise9InTheBin();
        promise9WhichOne();
        promise9WhereItWasLast();
        promise9Refused();
        promise10FirstAndLast();
        promise10Bin();
        promise10Refused();
        promise11EachSort();
        promise11Edges();
        promise11Refused();
        promise12EachAnswer();
        promise12Undo();
        promise12Refused();
        promise13SameTree();
        promise13EachDifference();
        promise13Refused();
        promise14AtFirstAndFull();
        promise14EachNode();
        promise14Refused();
        check.end();
    }

    private static void due(String what, long got, long want) {
        check.due(what, got, want);
    }

    /** What an object answers for what 0 to 5. */
    private static void object(String what, BinTrees x, int node, int object, int... want) {
        for (int w = 0; w < want.length; w++) {
            due(what + ", what " + w, x.object(node, object, w), want[w]);
        }
    }

    private static void row(BinTrees x, int row, int... want) {
        for (int w = 0; w < want.length; w++) {
            due("row " + row + ", what " + w, x.row(row, w), want[w]);
        }
    }

    private static void promise8LatestRow() {
        check.sentence("Promise 8", "The COST of the latest ROW that this NODE made or saw (0 ahead of any); NONE if there is no such NODE.");
        BinTrees x = new BinTrees();
        for (int n = 0; n < 4; n++) {
            due("ahead of any, node " + n, x.cost(n), 0);
        }
        x.make(0);
        due("made", x.cost(0), 1);
        due("ahead of any still", x.cost(1), 0);
        x.make(0);
        x.see(1, 2);
        x.see(1, 1);
        due("saw", x.cost(1), 2);
        due("of this NODE alone", x.cost(0), 1);
        x.see(1, 1);
        due("a refused call is none", x.cost(1), 2);
        x.meet(1, 0);
        due("a meeting that brings nothing is none", x.cost(1), 2);
        x.make(1);
        due("made after that", x.cost(1), 1);
        x.undo(0, x.move(0, 1, 0, NONE));
        due("an UNDO that it made", x.cost(0), 1);
        x.see(2, 5);
        due("an UNDO that costs nothing", x.cost(2), 0);
        x.meet(2, 0);
        due("the last one of a meeting: row 4, UNDONE", x.cost(2), 1);
    }

    private static void promise8Refused() {
        check.sentence("Promise 8", "The COST of the latest ROW that this NODE made or saw (0 ahead of any); NONE if there is no such NODE.");
        Refusals refused = new Refusals(check, Scenes::mixed);
        for (int node : NO_NODES) {
            refused.due("node " + node, x -> x.cost(node));
        }
    }

    private static void promise9Root() {
        check.sentence("Promise 9", OBJECT);
        object("THE ROOT alone", new BinTrees(), 3, 0, NONE, 0, 0, 0, 0, NONE);
        object("THE ROOT of others", Scenes.flat(39), 0, 0, NONE, 0, 39, 0, 0, NONE);
    }

    private static void promise9Parent() {
        check.sentence("Promise 9", OBJECT);
        BinTrees x = Scenes.chain(2);
        x.make(0);
        due("THE ROOT", x.object(0, 1, 0), 0);
        due("another", x.object(0, 2, 0), 1);
        due("in THE BIN itself", x.object(0, 3, 0), NONE);
        x.remove(0, 1, false);
        due("in THE BIN itself, removed", x.object(0, 1, 0), NONE);
        due("below that", x.object(0, 2, 0), 1);
    }

    private static void promise9Deep() {
        check.sentence("Promise 9", OBJECT);
        BinTrees x = Scenes.chain(8);
        for (int o = 0; o <= 8; o++) {
            due("OBJECT " + o, x.object(0, o, 1), o);
        }
        x.remove(0, 3, false);
        due("in THE BIN itself", x.object(0, 3, 1), 0);
        due("one below it", x.object(0, 4, 1), 1);
        due("five below it", x.object(0, 8, 1), 5);
        due("what is left", x.object(0, 2, 1), 2);
        x.remove(0, 1, false);
        due("another in THE BIN itself", x.object(0, 2, 1), 1);
        BinTrees y = Scenes.chain(8);
        y.remove(0, 1, false);
        due("the most there", y.object(0, 8, 1), 7);
    }

    private static void promise9Children() {
        check.sentence("Promise 9", OBJECT);
        BinTrees x = Scenes.flat(39);
        due("39 of THE ROOT", x.object(0, 0, 2), 39);
        due("none", x.object(0, 39, 2), 0);
        x.move(0, 38, 39, NONE);
        due("one", x.object(0, 39, 2), 1);
        x.remove(0, 39, false);
        due("one, in THE BIN", x.object(0, 39, 2), 1);
        due("37 are left", x.object(0, 0, 2), 37);
    }

    private static void promise9InTheBin() {
        check.sentence("Promise 9", OBJECT);
        BinTrees x = Scenes.chain(8);
        x.make(0);
        due("THE ROOT", x.object(0, 0, 3), 0);
        due("its child", x.object(0, 1, 3), 0);
        due("the deepest", x.object(0, 8, 3), 0);
        due("a new one", x.object(0, 9, 3), 1);
        x.remove(0, 2, false);
        due("above what was removed", x.object(0, 1, 3), 0);
        due("what was removed", x.object(0, 2, 3), 1);
        due("one below it", x.object(0, 3, 3), 1);
        due("six below it", x.object(0, 8, 3), 1);
        x.remove(0, 2, true);
        due("back", x.object(0, 8, 3), 0);
    }

    private static void promise9WhichOne() {
        check.sentence("Promise 9", OBJECT);
        BinTrees x = Scenes.flat(38);
        x.make(0);
        due("the first", x.object(0, 1, 4), 0);
        due("the last", x.object(0, 38, 4), 37);
        due("THE ROOT", x.object(0, 0, 4), 0);
        due("the first in THE BIN", x.object(0, 39, 4), 0);
        x.remove(0, 1, false);
        due("the second in THE BIN", x.object(0, 1, 4), 1);
        due("the first is another now", x.object(0, 2, 4), 0);
        x.move(0, 3, 2, NONE);
        x.move(0, 4, 2, 3);
        due("the second of another", x.object(0, 4, 4), 1);
    }

    private static void promise9WhereItWasLast() {
        check.sentence("Promise 9", OBJECT);
        BinTrees x = Scenes.chain(2);
        due("THE ROOT", x.object(0, 0, 5), NONE);
        due("under THE ROOT", x.object(0, 1, 5), 0);
        due("under another", x.object(0, 2, 5), 1);
        x.remove(0, 2, false);
        due("in THE BIN", x.object(0, 2, 5), 1);
        x.make(0);
        due("never anywhere", x.object(0, 3, 5), 0);
    }

    private static void promise9Refused() {
        check.sentence("Promise 9", "NONE if there is none such, or for another what.");
        Refusals refused = new Refusals(check, Scenes::mixed);
        // Parents may be NONE anyhow, so another what is asked too.
        for (int what = 0; what <= 5; what++) {
            int w = what;
            for (int node : NO_NODES) {
                refused.due("node " + node + ", what " + w, x -> x.object(node, 1, w));
            }
            for (int wild : WILD) {
                refused.due("object " + wild + ", what " + w, x -> x.object(0, wild, w));
            }
            refused.due("object NONE, what " + w, x -> x.object(0, NONE, w));
            refused.due("the next object, what " + w, x -> x.object(0, 5, w));
            refused.due("not there with node 3, what " + w, x -> x.object(3, 1, w));
            refused.due("not there with node 2, what " + w, x -> x.object(2, 3, w));
            due("object 40 of 39, what " + w, Scenes.made(39).object(0, 40, w), NONE);
        }
        for (int wild : WILD) {
            refused.due("what " + wild, x -> x.object(0, 1, wild));
        }
        refused.due("what -1", x -> x.object(0, 1, -1));
        refused.due("what 6", x -> x.object(0, 1, 6));
    }

    private static void promise10FirstAndLast() {
        check.sentence("Promise 10", CHILD);
        BinTrees x = Scenes.flat(39);
        due("the first", x.child(0, 0, 0), 1);
        due("the last", x.child(0, 0, 38), 39);
        due("one more", x.child(0, 0, 39), NONE);
        due("one less than the first", x.child(0, 0, -1), NONE);
        x.move(0, 2, 1, NONE);
        x.move(0, 39, 1, 2);
        check.children("of another", x, 0, 1, 2, 39);
        due("the last is another now", x.child(0, 0, 36), 38);
        due("one more again", x.child(0, 0, 37), NONE);
        check.children("of one without any", x, 0, 39);
        x.remove(0, 1, false);
        check.children("of one in THE BIN", x, 0, 1, 2, 39);
        check.children("of one with another tree", x, 1, 0);
    }

    private static void promise10Bin() {
        check.sentence("Promise 10", CHILD);
        BinTrees x = new BinTrees();
        check.children("empty", x, 0, NONE);
        BinTrees y = Scenes.made(39);
        due("the first", y.child(0, NONE, 0), 1);
        due("the last of 39", y.child(0, NONE, 38), 39);
        due("one more", y.child(0, NONE, 39), NONE);
        due("one less than the first", y.child(0, NONE, -1), NONE);
        BinTrees z = Scenes.chain(2);
        z.remove(0, 1, false);
        check.children("what lies there itself alone", z, 0, NONE, 1);
        check.children("of another node", z, 1, NONE);
    }

    private static void promise10Refused() {
        check.sentence("Promise 10", "NONE if there is none such.");
        Refusals refused = new Refusals(check, Scenes::mixed);
        for (int node : NO_NODES) {
            refused.due("node " + node, x -> x.child(node, 0, 0));
            refused.due("THE BIN of node " + node, x -> x.child(node, NONE, 0));
        }
        for (int wild : WILD) {
            refused.due("object " + wild, x -> x.child(0, wild, 0));
            refused.due("k " + wild, x -> x.child(0, 0, wild));
            refused.due("k of THE BIN " + wild, x -> x.child(0, NONE, wild));
        }
        refused.due("k -1", x -> x.child(0, 0, -1));
        refused.due("k of THE BIN -1", x -> x.child(0, NONE, -1));
        refused.due("the next object", x -> x.child(0, 5, 0));
        refused.due("not there", x -> x.child(3, 1, 0));
        due("object 40 of 39", Scenes.made(39).child(0, 40, 0), NONE);
    }

    private static void promise11EachSort() {
        check.sentence("Promise 11", ROW);
        BinTrees x = new BinTrees();
        x.make(3);
        x.make(1);
        x.meet(3, 1);
        x.move(3, 1, 0, NONE);
        x.move(3, 2, 0, 1);
        x.remove(3, 2, false);
        x.remove(2, 1, true);
        x.undo(3, 4);
        row(x, 1, 0, 3, 1, 1, NONE, NONE);
        row(x, 2, 0, 1, 1, 2, NONE, NONE);
        row(x, 3, 1, 3, 2, 1, 0, NONE);
        row(x, 4, 1, 3, 3, 2, 0, 1);
        row(x, 5, 2, 3, 4, 2, NONE, NONE);
        row(x, 6, 3, 2, 1, 1, NONE, NONE);
        row(x, 7, 4, 3, 5, 4, NONE, NONE);
    }

    private static void promise11Edges() {
        check.sentence("Promise 11", ROW);
        BinTrees x = Scenes.made(39);
        x.move(0, 39, 38, 37);
        x.move(0, 39, 39, 39);
        x.move(0, 1, 0, 0);
        row(x, 39, 0, 0, 39, 39, NONE, NONE);
        row(x, 40, 1, 0, 40, 39, 38, 37);
        row(x, 41, 1, 0, 41, 39, 39, 39);
        row(x, 42, 1, 0, 42, 1, 0, 0);
        BinTrees y = Scenes.rows(299);
        y.undo(1, 299);
        row(y, 300, 4, 1, y.total(21), 299, NONE, NONE);
    }

    private static void promise11Refused() {
        check.sentence("Promise 11", "NONE if there is none such, or for another what.");
        Refusals refused = new Refusals(check, Scenes::mixed);
        for (int what = 0; what <= 5; what++) {
            int w = what;
            for (int wild : WILD) {
                refused.due("row " + wild + ", what " + w, x -> x.row(wild, w));
            }
            refused.due("row NONE, what " + w, x -> x.row(NONE, w));
            refused.due("row 0, what " + w, x -> x.row(0, w));
            refused.due("the next row, what " + w, x -> x.row(14, w));
            due("row 301 of 300, what " + w, Scenes.rows(300).row(301, w), NONE);
        }
        for (int wild : WILD) {
            refused.due("what " + wild, x -> x.row(8, wild));
        }
        refused.due("what -1", x -> x.row(8, -1));
        refused.due("what 6", x -> x.row(8, 6));
    }

    private static void promise12EachAnswer() {
        check.sentence("Promise 12", JUDGED);
        BinTrees x = Scenes.flat(2);
        x.move(0, 1, 1, NONE);
        x.remove(0, 2, false);
        x.undo(0, 6);
        for (int row = 1; row <= 7; row++) {
            due("not KNOWN, row " + row, x.judged(3, row), 0);
        }
        for (int row = 1; row <= 4; row++) {
            due("acts, row " + row, x.judged(0, row), 1);
        }
        due("PASSED OVER", x.judged(0, 5), 2);
        due("UNDONE", x.judged(0, 6), 3);
        x.undo(0, 5);
        due("UNDONE, though it was PASSED OVER", x.judged(0, 5), 3);
        BinTrees y = Scenes.rows(300);
        due("row 300", y.judged(0, 300), 1);
        due("row 300, not KNOWN", y.judged(3, 300), 0);
        due("row 1", y.judged(0, 1), 1);
    }

    private static void promise12Undo() {
        check.sentence("Promise 12", JUDGED);
        BinTrees x = Scenes.flat(1);
        x.undo(0, 2);
        due("an UNDO that it KNOWS", x.judged(0, 3), 1);
        due("an UNDO that it does not KNOW", x.judged(1, 3), 0);
        x.see(1, 3);
        due("an UNDO of a ROW that it does not KNOW", x.judged(1, 3), 1);
        due("that ROW", x.judged(1, 2), 0);
        x.see(1, 2);
        due("that ROW, KNOWN", x.judged(1, 2), 3);
        due("the UNDO as before", x.judged(1, 3), 1);
    }

    private static void promise12Refused() {
        check.sentence("Promise 12", "NONE if there is none such.");
        Refusals refused = new Refusals(check, Scenes::mixed);
        for (int node : NO_NODES) {
            refused.due("node " + node, x -> x.judged(node, 1));
        }
        for (int wild : WILD) {
            refused.due("row " + wild, x -> x.judged(0, wild));
        }
        refused.due("row NONE", x -> x.judged(0, NONE));
        refused.due("row 0", x -> x.judged(0, 0));
        refused.due("the next row", x -> x.judged(0, 14));
        due("row 301 of 300", Scenes.rows(300).judged(0, 301), NONE);
    }

    private static void promise13SameTree() {
        check.sentence("Promise 13", ALIKE);
        BinTrees x = Scenes.flat(4);
        check.due("THE ROOT alone", x.alike(1, 2), true);
        check.due("itself", x.alike(0, 0), true);
        x.meet(1, 0);
        check.due("by the same rows", x.alike(0, 1), true);
        x.move(0, 3, 1, NONE);
        x.move(0, 4, 2, NONE);
        x.move(1, 4, 2, NONE);
        x.move(1, 3, 1, NONE);
        check.due("by other rows", x.alike(0, 1), true);
        x.move(1, 1, 1, NONE);
        check.due("one more that is PASSED OVER", x.alike(0, 1), true);
        x.undo(1, x.remove(1, 1, false));
        check.due("one more that is UNDONE", x.alike(1, 0), true);
        x.move(0, 4, 1, NONE);
        x.remove(0, 4, false);
        x.remove(1, 4, false);
        check.due("where it was last is none of these", x.alike(0, 1), true);
        due("with node 0", x.object(0, 4, 5), 1);
        due("with node 1", x.object(1, 4, 5), 2);
    }

    private static void promise13EachDifference() {
        check.sentence("Promise 13", ALIKE);
        differs("the OBJECTS there", x -> x.make(1));
        differs("a parent", x -> x.move(1, 2, 1, NONE));
        differs("THE BIN", x -> x.remove(1, 3, false));
        differs("an order", x -> x.move(1, 3, 0, NONE));
        differs("the order of the last two", x -> x.move(1, 2, 0, 3));
        differs("the order in THE BIN", x -> x.remove(1, 4, true) + x.remove(1, 4, false));
        differs("the last OBJECT", x -> x.move(1, 39, 0, NONE));
    }

    /** Two nodes that know the same 39 objects, 1 to 3 under THE ROOT; then one of them makes a change. */
    private static void differs(String what, ToIntFunction<BinTrees> change) {
        BinTrees x = Scenes.flat(3);
        for (int o = 4; o <= 38; o++) {
            x.make(0);
        }
        if (!what.equals("the OBJECTS there")) {
            x.make(0);
        }
        x.meet(1, 0);
        check.due(what + ", before", x.alike(0, 1), true);
        change.applyAsInt(x);
        check.due(what, x.alike(0, 1), false);
        check.due(what + ", the other way", x.alike(1, 0), false);
        check.due(what + ", itself", x.alike(1, 1), true);
        x.meet(0, 1);
        check.due(what + ", met", x.alike(0, 1), true);
    }

    private static void promise13Refused() {
        check.sentence("Promise 13", "False if there are no such NODES.");
        BinTrees x = new BinTrees();
        for (int node : NO_NODES) {
            check.due("a " + node, x.alike(node, 0), false);
            check.due("b " + node, x.alike(3, node), false);
            check.due("both " + node, x.alike(node, node), false);
        }
    }

    private static void promise14AtFirstAndFull() {
        check.sentence("Promise 14", TOTAL);
        BinTrees x = new BinTrees();
        int[] first = {0, 1, 0, 0, 1, 0};
        BinTrees y = Scenes.made(39);
        for (int row = 40; row <= 300; row++) {
            y.move(0, row % 2 + 1, 0, NONE);
        }
        int[] full = {300, 40, 300, 300, 40, 37};
        int[] whats = {0, 1, 10, 20, 30, 40};
        for (int i = 0; i < whats.length; i++) {
            due("at first, what " + whats[i], x.total(whats[i]), first[i]);
            due("300 rows, 39 made, what " + whats[i], y.total(whats[i]), full[i]);
        }
    }

    private static void promise14EachNode() {
        check.sentence("Promise 14", TOTAL);
        BinTrees x = Scenes.chain(3);
        x.remove(0, 2, false);
        x.make(1);
        x.make(2);
        x.make(2);
        x.make(3);
        x.move(3, 7, 0, NONE);
        x.undo(3, 12);
        x.see(3, 8);
        int[][] want = {{7, 1, 2, 4}, {7, 1, 2, 3}, {4, 2, 3, 3}, {1, 1, 2, 2}};
        for (int i = 0; i < 4; i++) {
            for (int n = 0; n < 4; n++) {
                int what = 10 * (i + 1) + n;
                due("what " + what, x.total(what), want[i][n]);
            }
        }
        due("ROWS", x.total(0), 13);
        due("OBJECTS", x.total(1), 8);
    }

    private static void promise14Refused() {
        check.sentence("Promise 14", "NONE for another what.");
        Refusals refused = new Refusals(check, Scenes::mixed);
        for (int wild : WILD) {
            refused.due("what " + wild, x -> x.total(wild));
        }
        BinTrees x = Scenes.mixed();
        for (int what = -60; what <= 200; what++) {
            int n = Math.floorMod(what, 10);
            boolean told = what == 0 || what == 1 || what >= 10 && what < 50 && n < 4;
            check.due("what " + what + " is one", x.total(what) != NONE, told);
        }
    }
}
