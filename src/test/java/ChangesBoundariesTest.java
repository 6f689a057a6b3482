/** The boundary cases that promises 1 to 7 name, a test for each sentence. */
public final class ChangesBoundariesTest {
    private static final int NONE = BinTrees.NONE;
    /** Neither a NODE nor an OBJECT nor a ROW nor NONE in any scene here. */
    private static final int[] WILD = {Integer.MIN_VALUE, Integer.MIN_VALUE + 1, -1000, -2, 1000, 65536,
        Integer.MAX_VALUE - 1, Integer.MAX_VALUE};
    private static final int[] NO_NODES = {Integer.MIN_VALUE, -4, -1, 4, 5, 256, Integer.MAX_VALUE};

    private static final String MOVE_REFUSED = "NONE if there are no such ones, the OBJECT is THE ROOT, or 300 ROWS were.";
    private static final String UNDO_REFUSED =
        "NONE if there is no such NODE, ROW of it of sort 1 to 3, it was UNDONE, or 300 ROWS were.";

    private static final Check check = new Check("ChangesBoundariesTest");

    private ChangesBoundariesTest() {
    }

    public static void main(String[] args) {
        promise1NoRows();
        promise1NothingToAskFor();
        promise2FirstAndLast();
        promise2Refused();
        promise2At300Rows();
        promise3FirstAndLast();
        promise3WhetherItKnowsOrNot();
        promise3Refused();
        promise3At300Rows();
        promise4FirstAndLast();
        promise4Refused();
        promise4At300Rows();
        promise5EachSort();
        promise5Refused();
        promise5AtTheEdges();
        promise5At300Rows();
        promise6FirstAndLast();
        promise6UndoOfAnUnknownRow();
        promise6Refused();
        promise6At300Rows();
        promise7NothingNewAndAllNew();
        promise7InTheirOrder();
        promise7OneWay();
        promise7Refused();
        promise7At300Rows();
        check.end();
    }

    private static void due(String what, long got, long want) {
        check.due(what, got, want);
    }

    private static void children(String what, BinTrees x, int node, int of, int... want) {
        check.children(what, x, node, of, want);
    }

    private static void promise1NoRows() {
        check.sentence("Promise 1", "THE ROOT alone, no ROWS.");
        BinTrees x = new BinTrees();
        due("ROWS", x.total(0), 0);
        due("OBJECTS with THE ROOT", x.total(1), 1);
        for (int n = 0; n < 4; n++) {
            due("KNOWN to " + n, x.total(10 + n), 0);
            due("TIME of " + n, x.total(20 + n), 0);
            due("there with " + n, x.total(30 + n), 1);
            due("in THE BIN of " + n, x.total(40 + n), 0);
            due("cost of " + n, x.cost(n), 0);
            int[] root = {NONE, 0, 0, 0, 0, NONE};
            for (int what = 0; what < root.length; what++) {
                due("THE ROOT with " + n + ", what " + what, x.object(n, 0, what), root[what]);
            }
            children("THE ROOT with " + n, x, n, 0);
            children("THE BIN of " + n, x, n, NONE);
            for (int m = 0; m < 4; m++) {
                check.due("alike " + n + " " + m, x.alike(n, m), true);
            }
        }
    }

    private static void promise1NothingToAskFor() {
        check.sentence("Promise 1", "THE ROOT alone, no ROWS.");
        Refusals refused = new Refusals(check, BinTrees::new);
        for (int n = 0; n < 4; n++) {
            int node = n;
            refused.due("undo(" + n + ", 1)", x -> x.undo(node, 1));
            refused.due("see(" + n + ", 1)", x -> x.see(node, 1));
            refused.due("judged(" + n + ", 1)", x -> x.judged(node, 1));
            refused.due("object(" + n + ", 1, 0)", x -> x.object(node, 1, 1));
            refused.due("move(" + n + ", 1, 0, NONE)", x -> x.move(node, 1, 0, NONE));
            refused.due("move(" + n + ", 0, 0, NONE)", x -> x.move(node, 0, 0, NONE));
            refused.due("remove(" + n + ", 1, false)", x -> x.remove(node, 1, false));
            refused.due("remove(" + n + ", 0, true)", x -> x.remove(node, 0, true));
            due("meet(" + n + ", " + (n + 1) % 4 + ")", new BinTrees().meet(node, (node + 1) % 4), 0);
        }
        for (int what = 0; what < 6; what++) {
            int w = what;
            refused.due("row(1, " + what + ")", x -> x.row(1, w));
        }
    }

    private static void promise2FirstAndLast() {
        check.sentence("Promise 2", "A NODE MAKES an OBJECT: its number.");
        BinTrees x = new BinTrees();
        for (int o = 1; o <= 39; o++) {
            due("the next number, whoever makes it", x.make((o * 3) % 4), o);
            due("its row's OBJECT", x.row(o, 3), o);
        }
        // Rows that make nothing use up row numbers, but none of the OBJECTS'.
        BinTrees y = Scenes.flat(1);
        due("behind row 2", y.make(3), 2);
        due("its row", y.row(3, 3), 2);
    }

    private static void promise2Refused() {
        check.sentence("Promise 2", "NONE if there is no such NODE, 39 were MADE, or 300 ROWS.");
        Refusals refused = new Refusals(check, Scenes::mixed);
        for (int node : NO_NODES) {
            refused.due("make(" + node + ")", x -> x.make(node));
        }
        Refusals full = new Refusals(check, () -> Scenes.made(39));
        for (int n = 0; n < 4; n++) {
            int node = n;
            full.due("39 were MADE, make(" + n + ")", x -> x.make(node));
        }
        due("38 were MADE", Scenes.made(38).make(3), 39);
        BinTrees x = Scenes.made(39);
        due("39 were MADE, but other rows are fine", x.move(0, 39, 0, NONE), 40);
    }

    private static void promise2At300Rows() {
        check.sentence("Promise 2", "NONE if there is no such NODE, 39 were MADE, or 300 ROWS.");
        Refusals full = new Refusals(check, () -> Scenes.rows(300));
        for (int n = 0; n < 4; n++) {
            int node = n;
            full.due("300 ROWS, make(" + n + ")", x -> x.make(node));
        }
        BinTrees x = Scenes.rows(299);
        due("as the 300th row", x.make(3), 3);
        due("it is the 300th", x.row(300, 0), 0);
        due("it is there", x.object(3, 3, 3), 1);
        due("the next", x.make(3), NONE);
        due("OBJECTS", x.total(1), 4);
    }

    private static void promise3FirstAndLast() {
        check.sentence("Promise 3", "A NODE MOVES an OBJECT that was MADE (whether it KNOWS of it or not) to a parent (THE ROOT, or one that was MADE), "
            + "behind an OBJECT (NONE: as the first one): the ROW's number.");
        BinTrees x = Scenes.made(39);
        due("the first OBJECT to THE ROOT", x.move(0, 1, 0, NONE), 40);
        due("the last OBJECT to the first", x.move(0, 39, 1, NONE), 41);
        due("one to the last, behind the last", x.move(0, 20, 39, 39), 42);
        due("one behind NONE, as the first one", x.move(0, 21, 39, NONE), 43);
        due("one behind the first OBJECT", x.move(0, 22, 0, 1), 44);
        due("one behind THE ROOT, which is no child", x.move(0, 23, 0, 0), 45);
        due("one behind itself", x.move(0, 24, 0, 24), 46);
        due("to itself, which is PASSED OVER", x.move(0, 24, 24, NONE), 47);
        children("THE ROOT", x, 0, 0, 24, 23, 1, 22);
        children("the last OBJECT", x, 0, 39, 21, 20);
        due("sort", x.row(47, 0), 1);
    }

    private static void promise3WhetherItKnowsOrNot() {
        check.sentence("Promise 3", "A NODE MOVES an OBJECT that was MADE (whether it KNOWS of it or not) to a parent (THE ROOT, or one that was MADE), "
            + "behind an OBJECT (NONE: as the first one): the ROW's number.");
        BinTrees x = Scenes.made(3);
        due("an OBJECT that it does not KNOW of", x.move(3, 1, 0, NONE), 4);
        due("a parent that it does not KNOW of", x.move(3, 1, 2, NONE), 5);
        due("one behind which that it does not KNOW of", x.move(3, 1, 2, 3), 6);
        for (int row = 4; row <= 6; row++) {
            due("PASSED OVER, row " + row, x.judged(3, row), 2);
        }
        due("it does not KNOW of the MAKES by that", x.total(13), 3);
        due("nor is there anything", x.total(33), 1);
        x.see(0, 4);
        x.see(0, 5);
        // Row 4 is of TIME 1 too, but of a higher NODE than row 1, which makes OBJECT 1.
        due("one who KNOWS of it", x.judged(0, 4), 1);
        due("the parent lies in THE BIN there", x.judged(0, 5), 2);
    }

    private static void promise3Refused() {
        check.sentence("Promise 3", MOVE_REFUSED);
        Refusals refused = new Refusals(check, Scenes::mixed);
        for (int node : NO_NODES) {
            refused.due("node " + node, x -> x.move(node, 1, 0, NONE));
        }
        for (int wild : WILD) {
            refused.due("object " + wild, x -> x.move(0, wild, 0, NONE));
            refused.due("to " + wild, x -> x.move(0, 1, wild, NONE));
            refused.due("behind " + wild, x -> x.move(0, 1, 0, wild));
        }
        refused.due("THE ROOT", x -> x.move(0, 0, 1, NONE));
        refused.due("THE ROOT to THE ROOT", x -> x.move(0, 0, 0, NONE));
        refused.due("OBJECT NONE", x -> x.move(0, NONE, 0, NONE));
        refused.due("the next OBJECT", x -> x.move(0, 5, 0, NONE));
        refused.due("to NONE, which is no parent", x -> x.move(0, 1, NONE, NONE));
        refused.due("to the next OBJECT", x -> x.move(0, 1, 5, NONE));
        refused.due("behind the next OBJECT", x -> x.move(0, 1, 0, 5));
        refused.due("all wrong", x -> x.move(4, 5, 5, 5));
        Refusals all = new Refusals(check, () -> Scenes.made(39));
        all.due("OBJECT 40 of 39", x -> x.move(0, 40, 0, NONE));
        all.due("to OBJECT 40 of 39", x -> x.move(0, 1, 40, NONE));
        all.due("behind OBJECT 40 of 39", x -> x.move(0, 1, 0, 40));
    }

    private static void promise3At300Rows() {
        check.sentence("Promise 3", MOVE_REFUSED);
        BinTrees x = Scenes.rows(299);
        due("the 300th", x.move(0, 2, 1, NONE), 300);
        due("it acts", x.object(0, 2, 0), 1);
        Refusals full = new Refusals(check, () -> Scenes.rows(300));
        for (int n = 0; n < 4; n++) {
            int node = n;
            full.due("300 ROWS were, node " + n, y -> y.move(node, 2, 1, NONE));
        }
    }

    private static void promise4FirstAndLast() {
        check.sentence("Promise 4", "A NODE REMOVES an OBJECT, or (back) RESTORES it: the ROW's number.");
        BinTrees x = Scenes.made(39);
        due("the last OBJECT back", x.remove(0, 39, true), 40);
        due("the first OBJECT back", x.remove(0, 1, true), 41);
        children("both back", x, 0, 0, 39, 1);
        due("the last OBJECT", x.remove(0, 39, false), 42);
        due("the first OBJECT", x.remove(0, 1, false), 43);
        children("none left", x, 0, 0);
        due("in THE BIN already", x.remove(0, 1, false), 44);
        due("one it does not KNOW of", x.remove(3, 1, false), 45);
        due("one it does not KNOW of, back", x.remove(3, 1, true), 46);
        due("PASSED OVER", x.judged(3, 46), 2);
        due("sort of a REMOVE", x.row(45, 0), 2);
        due("sort of a RESTORE", x.row(46, 0), 3);
    }

    private static void promise4Refused() {
        check.sentence("Promise 4", "NONE as for move().");
        Refusals refused = new Refusals(check, Scenes::mixed);
        for (boolean back : new boolean[] {false, true}) {
            for (int node : NO_NODES) {
                refused.due("node " + node + " " + back, x -> x.remove(node, 1, back));
            }
            for (int wild : WILD) {
                refused.due("object " + wild + " " + back, x -> x.remove(0, wild, back));
            }
            refused.due("THE ROOT " + back, x -> x.remove(0, 0, back));
            refused.due("OBJECT NONE " + back, x -> x.remove(0, NONE, back));
            refused.due("the next OBJECT " + back, x -> x.remove(0, 5, back));
            Refusals all = new Refusals(check, () -> Scenes.made(39));
            all.due("OBJECT 40 of 39 " + back, x -> x.remove(0, 40, back));
        }
    }

    private static void promise4At300Rows() {
        check.sentence("Promise 4", "NONE as for move().");
        BinTrees x = Scenes.rows(299);
        due("the 300th", x.remove(0, 2, false), 300);
        due("it acts", x.object(0, 2, 3), 1);
        due("the 300th, back", Scenes.rows(299).remove(1, 2, true), 300);
        Refusals full = new Refusals(check, () -> Scenes.rows(300));
        for (int n = 0; n < 4; n++) {
            int node = n;
            full.due("300 ROWS were, node " + n, y -> y.remove(node, 2, false));
            full.due("300 ROWS were, back, node " + n, y -> y.remove(node, 2, true));
        }
    }

    private static void promise5EachSort() {
        check.sentence("Promise 5", "A NODE UNDOES a ROW: the number of the UNDO.");
        BinTrees x = Scenes.flat(1);
        x.remove(0, 1, false);
        x.remove(0, 1, true);
        due("sort 3", x.undo(0, 4), 5);
        due("in THE BIN again", x.object(0, 1, 3), 1);
        due("sort 2", x.undo(0, 3), 6);
        due("out of it again", x.object(0, 1, 3), 0);
        due("sort 1", x.undo(0, 2), 7);
        due("in THE BIN by its MAKE", x.object(0, 1, 3), 1);
        due("where it was last: THE ROOT", x.object(0, 1, 5), 0);
        BinTrees y = Scenes.made(1);
        int passed = y.move(0, 1, 1, NONE);
        due("one that is PASSED OVER", y.undo(0, passed), 3);
        due("it is UNDONE", y.judged(0, passed), 3);
        for (int n = 1; n < 4; n++) {
            int own = y.move(n, 1, 0, NONE);
            due("by node " + n, y.undo(n, own), own + 1);
        }
    }

    private static void promise5Refused() {
        check.sentence("Promise 5", UNDO_REFUSED);
        Refusals refused = new Refusals(check, Scenes::mixed);
        for (int node : NO_NODES) {
            refused.due("node " + node, x -> x.undo(node, 2));
        }
        for (int wild : WILD) {
            refused.due("row " + wild, x -> x.undo(0, wild));
        }
        refused.due("row NONE", x -> x.undo(0, NONE));
        refused.due("row 0", x -> x.undo(0, 0));
        refused.due("the next row", x -> x.undo(0, 14));
        refused.due("a MAKE", x -> x.undo(0, 1));
        refused.due("an UNDO", x -> x.undo(0, 13));
        refused.due("another's, which it KNOWS", x -> x.undo(1, 2));
        refused.due("another's, which it does not KNOW", x -> x.undo(0, 8));
        refused.due("of one who knows nothing", x -> x.undo(3, 2));
        refused.due("it was UNDONE", x -> x.undo(0, 11));
    }

    private static void promise5AtTheEdges() {
        check.sentence("Promise 5", UNDO_REFUSED);
        due("the latest row of the scene", Scenes.mixed().undo(0, 12), 14);
        due("the first that may be", Scenes.mixed().undo(0, 2), 14);
        BinTrees x = Scenes.flat(1);
        due("once", x.undo(0, 2), 3);
        due("twice", x.undo(0, 2), NONE);
        due("UNDO of the UNDO", x.undo(0, 3), NONE);
        due("the same again as a new row", x.move(0, 1, 0, NONE), 4);
        due("which may be UNDONE", x.undo(0, 4), 5);
        due("rows", x.total(0), 5);
    }

    private static void promise5At300Rows() {
        check.sentence("Promise 5", UNDO_REFUSED);
        BinTrees x = Scenes.rows(299);
        due("the 299th by the 300th", x.undo(1, 299), 300);
        due("it is UNDONE", x.judged(1, 299), 3);
        Refusals full = new Refusals(check, () -> Scenes.rows(300));
        full.due("300 ROWS were, the last", y -> y.undo(0, 300));
        full.due("300 ROWS were, the first", y -> y.undo(0, 2));
        full.due("300 ROWS were, by node 1", y -> y.undo(1, 299));
        full.due("300 ROWS were, row 301", y -> y.undo(0, 301));
    }

    private static void promise6FirstAndLast() {
        check.sentence("Promise 6", "A NODE sees a ROW: its COST (of an UNDO of a ROW that it does not KNOW 0); "
            + "NONE if there is no such NODE or ROW, or it KNOWS it.");
        BinTrees x = Scenes.flat(2);
        due("the last row", x.see(3, 4), 1);
        due("the first row", x.see(3, 1), 2);
        due("a row between", x.see(3, 3), 2);
        due("the last one that is left", x.see(3, 2), 3);
        check.due("all of them", x.alike(0, 3), true);
        due("a meeting brings nothing more", x.meet(3, 0), 0);
        due("by another's mouth", x.see(2, 3), 1);
    }

    private static void promise6UndoOfAnUnknownRow() {
        check.sentence("Promise 6", "A NODE sees a ROW: its COST (of an UNDO of a ROW that it does not KNOW 0); "
            + "NONE if there is no such NODE or ROW, or it KNOWS it.");
        BinTrees x = Scenes.flat(2);
        x.undo(0, 2);
        due("knows nothing", x.see(1, 5), 0);
        due("it KNOWS the UNDO", x.total(11), 1);
        due("its TIME", x.total(21), 5);
        x.see(2, 4);
        x.see(2, 3);
        due("knows others, ahead and behind", x.see(2, 5), 0);
        x.see(3, 2);
        x.see(3, 4);
        due("knows the row", x.see(3, 5), 2);
        due("then the row comes", x.see(2, 2), 3);
        due("and is UNDONE", x.judged(2, 2), 3);
    }

    private static void promise6Refused() {
        check.sentence("Promise 6", "A NODE sees a ROW: its COST (of an UNDO of a ROW that it does not KNOW 0); "
            + "NONE if there is no such NODE or ROW, or it KNOWS it.");
        Refusals refused = new Refusals(check, Scenes::mixed);
        for (int node : NO_NODES) {
            refused.due("node " + node, x -> x.see(node, 1));
        }
        for (int wild : WILD) {
            refused.due("row " + wild, x -> x.see(1, wild));
        }
        refused.due("row NONE", x -> x.see(3, NONE));
        refused.due("row 0", x -> x.see(3, 0));
        refused.due("the next row", x -> x.see(3, 14));
        refused.due("one that it made", x -> x.see(0, 1));
        refused.due("an UNDO that it made", x -> x.see(0, 13));
        refused.due("one that it UNDID", x -> x.see(0, 11));
        refused.due("one that it saw", x -> x.see(2, 12));
        refused.due("one that it saw at a meeting", x -> x.see(1, 2));
        refused.due("one that is PASSED OVER", x -> x.see(1, 9));
    }

    private static void promise6At300Rows() {
        check.sentence("Promise 6", "A NODE sees a ROW: its COST (of an UNDO of a ROW that it does not KNOW 0); "
            + "NONE if there is no such NODE or ROW, or it KNOWS it.");
        BinTrees x = Scenes.rows(300);
        due("row 301", x.see(3, 301), NONE);
        due("row 300", x.see(3, 300), 1);
        due("row 300 again", x.see(3, 300), NONE);
        due("row 1", x.see(3, 1), 2);
    }

    private static void promise7NothingNewAndAllNew() {
        check.sentence("Promise 7", "A NODE sees all ROWS that another one KNOWS, in their ORDER: how many it did not KNOW.");
        BinTrees x = new BinTrees();
        due("the other KNOWS nothing", x.meet(0, 3), 0);
        x.make(3);
        x.make(3);
        due("all are new", x.meet(0, 3), 2);
        due("nothing is", x.meet(0, 3), 0);
        x.undo(3, x.move(3, 1, 0, NONE));
        due("an UNDO is a ROW too", x.meet(0, 3), 2);
        x.see(1, 1);
        x.see(1, 3);
        due("a part is new", x.meet(1, 3), 2);
        due("what the other saw, not what it made alone", x.meet(2, 1), 4);
        due("KNOWN", x.total(12), 4);
        due("TIME", x.total(22), 4);
        due("the other has seen nothing of it", x.meet(3, 2), 0);
    }

    private static void promise7InTheirOrder() {
        check.sentence("Promise 7", "A NODE sees all ROWS that another one KNOWS, in their ORDER: how many it did not KNOW.");
        BinTrees x = new BinTrees();
        x.make(3);
        x.make(3);
        x.make(3);
        x.make(0);
        x.meet(0, 3);
        // Row 4 is of TIME 1 and NODE 0, so it is seen first though made last; the last one seen is row 3.
        due("all", x.meet(1, 0), 4);
        due("the COST of the last one in ORDER", x.cost(1), 1);
        x.make(2);
        x.meet(2, 0);
        due("one of TIME 3 is the last for this one too", x.cost(2), 1);
        x.make(1);
        x.see(1, 5);
        due("TIME 1, NODE 2: ahead of four", x.cost(1), 5);
        BinTrees y = Scenes.flat(2);
        y.meet(1, 0);
        y.undo(0, 2);
        y.meet(1, 0);
        due("the UNDO is the last one: from row 2 on", y.cost(1), 3);
    }

    private static void promise7OneWay() {
        check.sentence("Promise 7", "A NODE sees all ROWS that another one KNOWS, in their ORDER: how many it did not KNOW.");
        BinTrees x = Scenes.flat(1);
        x.make(1);
        due("node sees", x.meet(1, 0), 2);
        due("the other sees nothing", x.total(10), 2);
        due("nor does it stand later", x.total(20), 2);
        due("nor do others", x.total(12), 0);
        due("back", x.meet(0, 1), 1);
        check.due("alike", x.alike(0, 1), true);
    }

    private static void promise7Refused() {
        check.sentence("Promise 7", "NONE if there are no such NODES, or they are the same one.");
        Refusals refused = new Refusals(check, Scenes::mixed);
        for (int node : NO_NODES) {
            refused.due("node " + node, x -> x.meet(node, 0));
            refused.due("other " + node, x -> x.meet(2, node));
            refused.due("both " + node, x -> x.meet(node, node));
        }
        for (int n = 0; n < 4; n++) {
            int node = n;
            refused.due("the same one, " + n, x -> x.meet(node, node));
        }
    }

    private static void promise7At300Rows() {
        check.sentence("Promise 7", "A NODE sees all ROWS that another one KNOWS, in their ORDER: how many it did not KNOW.");
        BinTrees x = Scenes.made(1);
        for (int row = 2; row <= 300; row++) {
            x.move(0, 1, 0, NONE);
        }
        due("300 at once", x.meet(3, 0), 300);
        due("TIME", x.total(23), 300);
        due("the last one's COST", x.cost(3), 1);
        check.due("alike", x.alike(0, 3), true);
    }
}
