/** Each promise by hand: ordinary inputs, the edges that the document names, wrong inputs. */
public final class PromisesTest {
    private static final int NONE = BinTrees.NONE;
    private static final int[] WILD = {Integer.MIN_VALUE, -1000, -2, 41, 301, 1000, Integer.MAX_VALUE};

    private static final Check check = new Check("PromisesTest");

    private PromisesTest() {
    }

    public static void main(String[] args) {
        promise1NewObject();
        promise2Make();
        promise2MakeAtMost39();
        promise3MoveRefusals();
        promise3MovePlaces();
        promise3MovePassedOver();
        promise3MoveDepth();
        promise3MoveBySomeoneWhoDoesNotKnow();
        promise4Remove();
        promise4Restore();
        promise4RestoreElsewhere();
        promise5Undo();
        promise5UndoJudgesAnew();
        promise6See();
        promise6SeeUndo();
        promise7Meet();
        promise8Cost();
        promise9Object();
        promise10Child();
        promise11Row();
        promise12Judged();
        promise13Alike();
        promise14Total();
        termsOrder();
        termsThreeHundredRows();
        check.end();
    }

    private static void due(String what, long got, long want) {
        check.due(what, got, want);
    }

    private static void due(String what, boolean got, boolean want) {
        check.due(what, got, want);
    }

    private static void children(String what, BinTrees x, int node, int of, int... want) {
        check.children(what, x, node, of, want);
    }

    private static void promise1NewObject() {
        BinTrees x = new BinTrees();
        due("1: rows", x.total(0), 0);
        due("1: objects", x.total(1), 1);
        for (int n = 0; n < 4; n++) {
            due("1: known", x.total(10 + n), 0);
            due("1: time", x.total(20 + n), 0);
            due("1: there", x.total(30 + n), 1);
            due("1: in the bin", x.total(40 + n), 0);
            due("1: cost", x.cost(n), 0);
            due("1: children of the root", x.object(n, 0, 2), 0);
            due("1: object 1", x.object(n, 1, 0), NONE);
            children("1: the root", x, n, 0);
            children("1: the bin", x, n, NONE);
            due("1: alike", x.alike(0, n), true);
        }
        due("1: row 1", x.row(1, 0), NONE);
        due("1: NONE", BinTrees.NONE, -1);
    }

    private static void promise2Make() {
        BinTrees x = new BinTrees();
        due("2: first", x.make(2), 1);
        due("2: second", x.make(0), 2);
        due("2: third", x.make(2), 3);
        children("2: the bin of 2", x, 2, NONE, 1, 3);
        children("2: the bin of 0", x, 0, NONE, 2);
        due("2: time of row 1", x.row(1, 2), 1);
        due("2: time of row 2", x.row(2, 2), 1);
        due("2: time of row 3", x.row(3, 2), 2);
        due("2: where it was last", x.object(2, 3, 5), 0);
        due("2: parent", x.object(2, 3, 0), NONE);
        for (int wild : new int[] {-1, 4, Integer.MIN_VALUE, Integer.MAX_VALUE}) {
            due("2: node " + wild, x.make(wild), NONE);
        }
        due("2: nothing came of wrong nodes", x.total(0), 3);
    }

    private static void promise2MakeAtMost39() {
        BinTrees x = new BinTrees();
        for (int o = 1; o <= 39; o++) {
            due("2: make " + o, x.make(o % 4), o);
        }
        due("2: the 40th", x.make(0), NONE);
        due("2: rows", x.total(0), 39);
        due("2: objects", x.total(1), 40);
        due("2: moving the last", x.move(0, 39, 38, 37), 40);
        due("2: moving one more", x.move(0, 40, 0, NONE), NONE);
        due("2: object 40", x.object(0, 40, 0), NONE);
        due("2: child of 40", x.child(0, 40, 0), NONE);
    }

    private static void promise3MoveRefusals() {
        BinTrees x = Scenes.flat(3);
        due("3: node -1", x.move(-1, 1, 0, NONE), NONE);
        due("3: node 4", x.move(4, 1, 0, NONE), NONE);
        due("3: the root", x.move(0, 0, 1, NONE), NONE);
        due("3: object NONE", x.move(0, NONE, 1, NONE), NONE);
        due("3: object 4", x.move(0, 4, 1, NONE), NONE);
        due("3: to NONE", x.move(0, 1, NONE, NONE), NONE);
        due("3: to 4", x.move(0, 1, 4, NONE), NONE);
        due("3: behind 4", x.move(0, 1, 0, 4), NONE);
        due("3: behind -2", x.move(0, 1, 0, -2), NONE);
        for (int wild : WILD) {
            due("3: node " + wild, x.move(wild, 1, 0, NONE), NONE);
            due("3: object " + wild, x.move(0, wild, 0, NONE), NONE);
            due("3: to " + wild, x.move(0, 1, wild, NONE), NONE);
            due("3: behind " + wild, x.move(0, 1, 0, wild), NONE);
        }
        due("3: rows", x.total(0), 6);
        due("3: time", x.total(20), 6);
        due("3: to itself is a row", x.move(0, 1, 1, NONE), 7);
        due("3: to itself is passed over", x.judged(0, 7), 2);
        due("3: behind the root is a row", x.move(0, 3, 0, 0), 8);
        children("3: behind the root", x, 0, 0, 3, 1, 2);
    }

    private static void promise3MovePlaces() {
        BinTrees x = Scenes.flat(4);
        children("3: one behind the other", x, 0, 0, 1, 2, 3, 4);
        x.move(0, 1, 0, 3);
        children("3: behind 3", x, 0, 0, 2, 3, 1, 4);
        x.move(0, 4, 0, NONE);
        children("3: the first", x, 0, 0, 4, 2, 3, 1);
        x.move(0, 3, 0, 3);
        children("3: behind itself", x, 0, 0, 3, 4, 2, 1);
        x.move(0, 2, 1, NONE);
        x.move(0, 4, 1, 3);
        children("3: behind one that is elsewhere", x, 0, 1, 4, 2);
        children("3: what is left", x, 0, 0, 3, 1);
        x.move(0, 3, 1, 4);
        children("3: in the middle", x, 0, 1, 4, 3, 2);
        x.move(0, 1, 0, NONE);
        children("3: children come along", x, 0, 1, 4, 3, 2);
        x.make(0);
        x.move(0, 5, 1, 2);
        children("3: the last", x, 0, 1, 4, 3, 2, 5);
        due("3: where it was last", x.object(0, 5, 5), 1);
        children("3: the bin is left", x, 0, NONE);
        x.make(0);
        x.move(0, 3, 0, 6);
        children("3: behind one in the bin", x, 0, 0, 3, 1);
    }

    private static void promise3MovePassedOver() {
        BinTrees x = Scenes.chain(3);
        int row = x.move(0, 1, 3, NONE);
        due("3: below itself", x.judged(0, row), 2);
        due("3: below itself, parent", x.object(0, 1, 0), 0);
        due("3: below itself, where last", x.object(0, 1, 5), 0);
        x.make(0);
        row = x.move(0, 3, 4, NONE);
        due("3: into the bin's own", x.judged(0, row), 2);
        x.move(0, 4, 0, 1);
        x.remove(0, 1, false);
        row = x.move(0, 4, 3, NONE);
        due("3: below what lies in the bin", x.judged(0, row), 2);
        row = x.move(0, 3, 4, NONE);
        due("3: out of the bin", x.judged(0, row), 1);
        due("3: out of the bin, 3", x.object(0, 3, 3), 0);
        due("3: out of the bin, 2", x.object(0, 2, 3), 1);
        row = x.move(0, 1, 4, 3);
        due("3: the bin's own out", x.judged(0, row), 1);
        children("3: the bin's own out", x, 0, 4, 3, 1);
        children("3: the bin is left", x, 0, NONE);
        row = x.move(0, 1, 2, NONE);
        due("3: to its child", x.judged(0, row), 2);
    }

    private static void promise3MoveDepth() {
        BinTrees x = Scenes.chain(9);
        due("3: 8 deep", x.object(0, 8, 1), 8);
        due("3: 9 deep is passed over", x.judged(0, 18), 2);
        due("3: it lies in the bin", x.object(0, 9, 3), 1);
        int row = x.move(0, 9, 0, NONE);
        due("3: it goes to the root", x.judged(0, row), 1);
        row = x.move(0, 1, 9, NONE);
        due("3: all would be one deeper", x.judged(0, row), 2);
        row = x.move(0, 2, 9, NONE);
        due("3: as deep as before", x.judged(0, row), 1);
        due("3: as deep as before, 8", x.object(0, 8, 1), 8);
        row = x.move(0, 9, 1, NONE);
        due("3: one deeper again", x.judged(0, row), 2);
        x.make(0);
        x.move(0, 10, 0, NONE);
        x.move(0, 1, 10, NONE);
        row = x.move(0, 10, 7, NONE);
        due("3: a pair below one 7 deep", x.judged(0, row), 2);
        row = x.move(0, 10, 6, NONE);
        due("3: a pair below one 6 deep", x.judged(0, row), 1);
        due("3: a pair below one 6 deep, 1", x.object(0, 1, 1), 8);
    }

    private static void promise3MoveBySomeoneWhoDoesNotKnow() {
        BinTrees x = new BinTrees();
        x.make(0);
        x.make(0);
        due("3: not known", x.move(3, 2, 1, NONE), 3);
        due("3: not known, judged", x.judged(3, 3), 2);
        due("3: not known, there", x.total(33), 1);
        x.meet(3, 0);
        // Row 3 has time 1, ahead of the MAKE of 2, so it stays passed over.
        due("3: known now, judged", x.judged(3, 3), 2);
        due("3: known now, there", x.total(33), 3);
        x.see(3, x.move(2, 1, 0, NONE));
        due("3: judged anew, not there yet", x.judged(3, 3), 2);
        due("3: again", x.move(3, 2, 0, NONE), 5);
        due("3: again, judged", x.judged(3, 5), 1);
    }

    private static void promise4Remove() {
        BinTrees x = Scenes.chain(3);
        due("4: node -1", x.remove(-1, 1, false), NONE);
        due("4: node 4", x.remove(4, 1, true), NONE);
        due("4: the root", x.remove(0, 0, false), NONE);
        due("4: the root back", x.remove(0, 0, true), NONE);
        due("4: object 4", x.remove(0, 4, false), NONE);
        due("4: object NONE", x.remove(0, NONE, true), NONE);
        for (int wild : WILD) {
            due("4: node " + wild, x.remove(wild, 1, false), NONE);
            due("4: object " + wild, x.remove(0, wild, false), NONE);
        }
        due("4: rows", x.total(0), 6);
        due("4: remove", x.remove(0, 2, false), 7);
        due("4: sort", x.row(7, 0), 2);
        due("4: acts", x.judged(0, 7), 1);
        children("4: the bin", x, 0, NONE, 2);
        children("4: what is below comes along", x, 0, 2, 3);
        children("4: where it was", x, 0, 1);
        due("4: where it was last", x.object(0, 2, 5), 1);
        due("4: again", x.remove(0, 2, false), 8);
        due("4: again is passed over", x.judged(0, 8), 2);
        due("4: what is below it", x.remove(0, 3, false), 9);
        due("4: what is below it acts", x.judged(0, 9), 1);
        children("4: the bin, as the last one", x, 0, NONE, 2, 3);
        due("4: where that was last", x.object(0, 3, 5), 2);
        x.remove(1, 1, false);
        due("4: not there", x.judged(1, 10), 2);
    }

    private static void promise4Restore() {
        BinTrees x = Scenes.flat(4);
        x.move(0, 2, 1, NONE);
        x.move(0, 3, 1, 2);
        int row = x.remove(0, 2, true);
        due("4: back of one not in the bin", x.judged(0, row), 2);
        due("4: sort", x.row(row, 0), 3);
        x.remove(0, 2, false);
        row = x.remove(0, 2, true);
        due("4: back", x.judged(0, row), 1);
        children("4: back as the last one", x, 0, 1, 3, 2);
        x.remove(0, 1, false);
        row = x.remove(0, 2, true);
        due("4: back of one below the bin's own", x.judged(0, row), 2);
        row = x.remove(0, 1, true);
        due("4: back to the root", x.judged(0, row), 1);
        children("4: back to the root, as the last one", x, 0, 0, 4, 1);
        children("4: with what is below it", x, 0, 1, 3, 2);
        x.make(0);
        row = x.remove(0, 5, true);
        due("4: back of a new one", x.judged(0, row), 1);
        children("4: back of a new one, as the last one", x, 0, 0, 4, 1, 5);
        row = x.remove(1, 1, true);
        due("4: back of one not there", x.judged(1, row), 2);
    }

    private static void promise4RestoreElsewhere() {
        BinTrees x = Scenes.chain(3);
        x.remove(0, 2, false);
        x.remove(0, 1, false);
        int row = x.remove(0, 2, true);
        due("4: where it was last is in the bin", x.judged(0, row), 1);
        due("4: so it goes to the root", x.object(0, 2, 0), 0);
        due("4: where it was last is that then", x.object(0, 2, 5), 0);

        BinTrees y = Scenes.chain(8);
        y.remove(0, 7, false);
        y.make(0);
        y.move(0, 9, 0, 1);
        y.move(0, 1, 9, NONE);
        row = y.remove(0, 7, true);
        due("4: it would lie too deep there", y.judged(0, row), 1);
        due("4: so it goes to the root instead", y.object(0, 7, 0), 0);
        children("4: as the last one", y, 0, 0, 9, 7);
        due("4: and remembers that", y.object(0, 7, 5), 0);
    }

    private static void promise5Undo() {
        BinTrees x = Scenes.flat(2);
        x.remove(0, 1, false);
        x.remove(0, 1, true);
        due("5: node -1", x.undo(-1, 2), NONE);
        due("5: node 4", x.undo(4, 2), NONE);
        due("5: another's row", x.undo(1, 2), NONE);
        x.meet(1, 0);
        due("5: another's row that it knows", x.undo(1, 2), NONE);
        due("5: a make", x.undo(0, 1), NONE);
        due("5: row 0", x.undo(0, 0), NONE);
        due("5: row 7", x.undo(0, 7), NONE);
        for (int wild : WILD) {
            due("5: row " + wild, x.undo(0, wild), NONE);
            due("5: node " + wild, x.undo(wild, 2), NONE);
        }
        due("5: rows", x.total(0), 6);
        due("5: a restore", x.undo(0, 6), 7);
        due("5: in the bin again", x.object(0, 1, 3), 1);
        due("5: a remove", x.undo(0, 5), 8);
        due("5: out of it again", x.object(0, 1, 3), 0);
        due("5: a move", x.undo(0, 2), 9);
        due("5: in the bin since it was made", x.object(0, 1, 3), 1);
        due("5: an undo", x.undo(0, 9), NONE);
        due("5: twice", x.undo(0, 2), NONE);
        due("5: sort", x.row(9, 0), 4);
        due("5: time", x.row(9, 2), 9);
        due("5: 1 does not know of it", x.judged(1, 2), 1);
    }

    private static void promise5UndoJudgesAnew() {
        BinTrees x = Scenes.flat(2);
        int into = x.move(0, 1, 2, NONE);
        int ring = x.move(0, 2, 1, NONE);
        due("5: a ring", x.judged(0, ring), 2);
        x.undo(0, into);
        due("5: no ring any more", x.judged(0, ring), 1);
        due("5: no ring any more, parent", x.object(0, 2, 0), 1);
        due("5: undone", x.judged(0, into), 3);
        due("5: where it was last, without it", x.object(0, 1, 5), 0);
        BinTrees y = Scenes.chain(2);
        y.undo(0, 4);
        due("5: where it was last, never moved", y.object(0, 2, 5), 0);
        due("5: passed over ones may be undone", x.undo(0, x.move(0, 1, 1, NONE)), 9);
        due("5: passed over, undone", x.judged(0, 8), 3);
    }

    private static void promise6See() {
        BinTrees x = Scenes.flat(2);
        due("6: node -1", x.see(-1, 1), NONE);
        due("6: node 4", x.see(4, 1), NONE);
        due("6: row 0", x.see(1, 0), NONE);
        due("6: row 5", x.see(1, 5), NONE);
        due("6: its own", x.see(0, 1), NONE);
        for (int wild : WILD) {
            due("6: row " + wild, x.see(1, wild), NONE);
            due("6: node " + wild, x.see(wild, 1), NONE);
        }
        due("6: the last one first", x.see(1, 4), 1);
        due("6: time", x.total(21), 4);
        due("6: passed over", x.judged(1, 4), 2);
        due("6: the first one", x.see(1, 1), 2);
        due("6: time stays", x.total(21), 4);
        due("6: in between", x.see(1, 3), 2);
        due("6: judged anew", x.judged(1, 4), 1);
        due("6: again", x.see(1, 3), NONE);
        due("6: the next", x.see(1, 2), 3);
        children("6: as with 0", x, 1, 0, 1, 2);
        due("6: known", x.total(11), 4);
    }

    private static void promise6SeeUndo() {
        BinTrees x = Scenes.flat(3);
        x.undo(0, 4);
        due("6: an undo of an unknown row", x.see(1, 7), 0);
        due("6: cost", x.cost(1), 0);
        due("6: time", x.total(21), 7);
        due("6: acts", x.judged(1, 7), 1);
        due("6: the row it undoes, not known", x.judged(1, 4), 0);
        due("6: undos do not count", x.see(1, 6), 1);
        due("6: a row undone before it is known", x.see(1, 4), 2);
        due("6: it is undone", x.judged(1, 4), 3);
        due("6: undone ones count", x.see(1, 3), 3);
        x.see(2, 3);
        x.see(2, 4);
        x.see(2, 5);
        due("6: before", x.object(2, 2, 3), 0);
        due("6: an undo of a known row", x.see(2, 7), 2);
        due("6: after", x.object(2, 2, 3), 1);
    }

    private static void promise7Meet() {
        BinTrees x = Scenes.flat(2);
        due("7: itself", x.meet(0, 0), NONE);
        due("7: node -1", x.meet(-1, 0), NONE);
        due("7: other -1", x.meet(0, -1), NONE);
        due("7: node 4", x.meet(4, 0), NONE);
        due("7: other 4", x.meet(0, 4), NONE);
        for (int wild : WILD) {
            due("7: node " + wild, x.meet(wild, 0), NONE);
            due("7: other " + wild, x.meet(0, wild), NONE);
        }
        due("7: nothing new", x.meet(0, 1), 0);
        due("7: cost stays", x.cost(0), 1);
        x.see(1, 3);
        due("7: three new", x.meet(1, 0), 3);
        due("7: known", x.total(11), 4);
        due("7: time", x.total(21), 4);
        due("7: alike", x.alike(0, 1), true);
        due("7: 0 learned nothing", x.total(10), 4);
        due("7: again", x.meet(1, 0), 0);
        x.undo(0, 2);
        x.move(1, 2, 1, NONE);
        due("7: an undo counts", x.meet(1, 0), 1);
        due("7: 2 saw nothing", x.total(12), 0);
        due("7: on to 2", x.meet(2, 1), 6);
        due("7: 2 as 1", x.alike(1, 2), true);
        due("7: back to 0", x.meet(0, 2), 1);
        due("7: 0 as 2", x.alike(0, 2), true);
    }

    private static void promise8Cost() {
        BinTrees x = Scenes.flat(3);
        due("8: node -1", x.cost(-1), NONE);
        due("8: node 4", x.cost(4), NONE);
        due("8: ahead of any", x.cost(1), 0);
        due("8: of one made", x.cost(0), 1);
        x.undo(0, 2);
        due("8: of an undo", x.cost(0), 5);
        x.undo(0, 4);
        due("8: undone ones count, undos do not", x.cost(0), 3);
        x.see(1, 6);
        x.see(1, 5);
        due("8: of one seen", x.cost(1), 2);
        x.see(1, 5);
        due("8: nothing seen", x.cost(1), 2);
        x.meet(1, 0);
        // Row 8, the undo of row 4, is the last in their order: rows 4, 5 and 6 are from there on.
        due("8: the last of a meeting", x.cost(1), 3);
        x.make(2);
        x.make(2);
        x.make(1);
        x.meet(2, 1);
        due("8: behind all others", x.cost(2), 1);
        due("8: time", x.total(22), 9);
        x.move(3, 1, 0, NONE);
        x.meet(1, 3);
        due("8: ahead of many", x.cost(1), 7);
    }

    private static void promise9Object() {
        BinTrees x = Scenes.chain(3);
        x.make(0);
        x.make(0);
        x.move(0, 5, 1, 2);
        due("9: parent", x.object(0, 3, 0), 2);
        due("9: parent of the root's child", x.object(0, 1, 0), 0);
        due("9: parent of the root", x.object(0, 0, 0), NONE);
        due("9: parent in the bin", x.object(0, 4, 0), NONE);
        due("9: deep", x.object(0, 3, 1), 3);
        due("9: deep, the root", x.object(0, 0, 1), 0);
        due("9: deep, in the bin", x.object(0, 4, 1), 0);
        due("9: children", x.object(0, 1, 2), 2);
        due("9: children of the root", x.object(0, 0, 2), 1);
        due("9: no children", x.object(0, 4, 2), 0);
        due("9: not in the bin", x.object(0, 3, 3), 0);
        due("9: the root is not in the bin", x.object(0, 0, 3), 0);
        due("9: in the bin", x.object(0, 4, 3), 1);
        due("9: which", x.object(0, 2, 4), 0);
        due("9: which, second", x.object(0, 5, 4), 1);
        due("9: which, the root", x.object(0, 0, 4), 0);
        due("9: last, the root", x.object(0, 0, 5), NONE);
        due("9: last", x.object(0, 5, 5), 1);
        due("9: last, never moved", x.object(0, 4, 5), 0);
        x.remove(0, 2, false);
        due("9: below the bin's own, parent", x.object(0, 3, 0), 2);
        due("9: below the bin's own, deep", x.object(0, 3, 1), 1);
        due("9: below the bin's own, in the bin", x.object(0, 3, 3), 1);
        due("9: second in the bin", x.object(0, 2, 4), 1);
        due("9: what -1", x.object(0, 1, -1), NONE);
        due("9: what 6", x.object(0, 1, 6), NONE);
        due("9: node -1", x.object(-1, 1, 1), NONE);
        due("9: node 4", x.object(4, 1, 1), NONE);
        due("9: object -1", x.object(0, -1, 1), NONE);
        due("9: object 6", x.object(0, 6, 1), NONE);
        due("9: not there", x.object(1, 1, 1), NONE);
        for (int wild : WILD) {
            due("9: node " + wild, x.object(wild, 1, 1), NONE);
            due("9: object " + wild, x.object(0, wild, 1), NONE);
            due("9: what " + wild, x.object(0, 1, wild), NONE);
        }
    }

    private static void promise10Child() {
        BinTrees x = Scenes.flat(3);
        x.move(0, 3, 1, NONE);
        x.remove(0, 2, false);
        children("10: the root", x, 0, 0, 1);
        children("10: 1", x, 0, 1, 3);
        children("10: 3", x, 0, 3);
        children("10: the bin", x, 0, NONE, 2);
        due("10: k -1", x.child(0, 0, -1), NONE);
        due("10: node -1", x.child(-1, 0, 0), NONE);
        due("10: node 4", x.child(4, 0, 0), NONE);
        due("10: object 4", x.child(0, 4, 0), NONE);
        due("10: not there", x.child(1, 1, 0), NONE);
        for (int wild : WILD) {
            due("10: node " + wild, x.child(wild, 0, 0), NONE);
            due("10: object " + wild, x.child(0, wild, 0), NONE);
            due("10: k " + wild, x.child(0, 0, wild), NONE);
        }
    }

    private static void rowIs(BinTrees x, int row, int... want) {
        for (int what = 0; what < want.length; what++) {
            due("11: row " + row + ", what " + what, x.row(row, what), want[what]);
        }
    }

    private static void promise11Row() {
        BinTrees x = new BinTrees();
        x.make(1);
        x.make(1);
        x.move(1, 1, 0, NONE);
        x.meet(3, 1);
        x.move(3, 2, 0, 1);
        x.remove(3, 2, false);
        x.remove(2, 1, true);
        x.undo(3, 4);
        rowIs(x, 1, 0, 1, 1, 1, NONE, NONE);
        rowIs(x, 2, 0, 1, 2, 2, NONE, NONE);
        rowIs(x, 3, 1, 1, 3, 1, 0, NONE);
        rowIs(x, 4, 1, 3, 4, 2, 0, 1);
        rowIs(x, 5, 2, 3, 5, 2, NONE, NONE);
        rowIs(x, 6, 3, 2, 1, 1, NONE, NONE);
        rowIs(x, 7, 4, 3, 6, 4, NONE, NONE);
        due("11: row 0", x.row(0, 0), NONE);
        due("11: row 8", x.row(8, 0), NONE);
        due("11: row -1", x.row(-1, 0), NONE);
        due("11: what -1", x.row(1, -1), NONE);
        due("11: what 6", x.row(1, 6), NONE);
        for (int wild : WILD) {
            due("11: row " + wild, x.row(wild, 0), NONE);
            due("11: what " + wild, x.row(1, wild), NONE);
        }
    }

    private static void promise12Judged() {
        BinTrees x = Scenes.flat(2);
        x.move(0, 1, 1, NONE);
        x.remove(0, 2, false);
        x.undo(0, 6);
        due("12: a make acts", x.judged(0, 1), 1);
        due("12: a move acts", x.judged(0, 2), 1);
        due("12: passed over", x.judged(0, 5), 2);
        due("12: undone", x.judged(0, 6), 3);
        due("12: an undo acts", x.judged(0, 7), 1);
        due("12: not known", x.judged(1, 7), 0);
        x.see(1, 7);
        due("12: an undo of an unknown row acts", x.judged(1, 7), 1);
        due("12: a row that is not known, its undo is", x.judged(1, 6), 0);
        due("12: row 0", x.judged(0, 0), NONE);
        due("12: row 8", x.judged(0, 8), NONE);
        due("12: node -1", x.judged(-1, 1), NONE);
        due("12: node 4", x.judged(4, 1), NONE);
        for (int wild : WILD) {
            due("12: row " + wild, x.judged(0, wild), NONE);
            due("12: node " + wild, x.judged(wild, 1), NONE);
        }
    }

    private static void promise13Alike() {
        BinTrees x = Scenes.flat(2);
        due("13: itself", x.alike(0, 0), true);
        due("13: other objects", x.alike(0, 1), false);
        x.meet(1, 0);
        due("13: the same rows", x.alike(1, 0), true);
        x.move(1, 1, 0, 2);
        due("13: another order", x.alike(0, 1), false);
        x.move(0, 2, 0, NONE);
        due("13: the same by other rows", x.alike(0, 1), true);
        x.move(1, 2, 1, NONE);
        due("13: another parent", x.alike(0, 1), false);
        x.remove(1, 2, false);
        x.remove(0, 2, false);
        due("13: where it was last does not count", x.alike(0, 1), true);
        due("13: where it was last of 0", x.object(0, 2, 5), 0);
        due("13: where it was last of 1", x.object(1, 2, 5), 1);
        x.remove(0, 1, false);
        due("13: the bin", x.alike(0, 1), false);
        due("13: node -1", x.alike(-1, 0), false);
        due("13: node 4", x.alike(0, 4), false);
        due("13: no such nodes, the same", x.alike(4, 4), false);
        for (int wild : WILD) {
            due("13: a " + wild, x.alike(wild, 0), false);
            due("13: b " + wild, x.alike(0, wild), false);
        }
        binOrder();
        orderBetweenParentsDoesNotCount();
    }

    private static void binOrder() {
        BinTrees x = new BinTrees();
        x.make(0);
        x.make(1);
        x.make(1);
        x.meet(0, 1);
        x.meet(1, 0);
        due("13: the bins alike", x.alike(0, 1), true);
        x.remove(0, x.child(0, NONE, 0), true);
        x.move(1, x.child(1, NONE, 0), 0, NONE);
        due("13: a restore and a move alike", x.alike(0, 1), true);
        x.remove(0, x.child(0, 0, 0), false);
        due("13: in the bin with one alone", x.alike(0, 1), false);
        x.remove(1, x.child(1, 0, 0), false);
        due("13: in both bins", x.alike(0, 1), true);
        int first = x.child(1, NONE, 0);
        x.remove(1, first, true);
        x.remove(1, first, false);
        due("13: another order in the bin", x.alike(0, 1), false);
    }

    private static void orderBetweenParentsDoesNotCount() {
        BinTrees x = Scenes.flat(4);
        x.meet(1, 0);
        x.move(0, 3, 1, NONE);
        x.move(0, 4, 2, NONE);
        x.move(1, 4, 2, NONE);
        x.move(1, 3, 1, NONE);
        due("13: moved in another order", x.alike(0, 1), true);
    }

    private static void promise14Total() {
        BinTrees x = Scenes.chain(3);
        x.remove(0, 2, false);
        x.undo(0, 6);
        x.make(2);
        due("14: rows", x.total(0), 9);
        due("14: objects", x.total(1), 5);
        due("14: known to 0", x.total(10), 8);
        due("14: known to 2", x.total(12), 1);
        due("14: known to 3", x.total(13), 0);
        due("14: time of 0", x.total(20), 8);
        due("14: time of 2", x.total(22), 1);
        due("14: there with 0", x.total(30), 4);
        due("14: there with 2", x.total(32), 2);
        due("14: there with 3", x.total(33), 1);
        due("14: in the bin of 0", x.total(40), 2);
        due("14: in the bin of 2", x.total(42), 1);
        due("14: in the bin of 3", x.total(43), 0);
        x.move(0, 3, 1, NONE);
        due("14: one less in the bin", x.total(40), 1);
        due("14: as many there", x.total(30), 4);
        int[] others = {-1, 2, 9, 14, 19, 24, 29, 34, 39, 44, 49, 50, 53, 100, 110, -10, -9, -20,
            Integer.MIN_VALUE, Integer.MAX_VALUE, Integer.MAX_VALUE - 7};
        for (int what : others) {
            due("14: what " + what, x.total(what), NONE);
        }
    }

    private static void termsOrder() {
        BinTrees x = Scenes.flat(2);
        for (int n = 1; n < 4; n++) {
            x.meet(n, 0);
        }
        int late = x.move(3, 1, 2, NONE);
        int early = x.move(1, 2, 1, NONE);
        due("order: the same time", x.row(late, 2), x.row(early, 2));
        x.see(3, early);
        due("order: the lower node is ahead", x.judged(3, early), 1);
        due("order: the higher one makes a ring", x.judged(3, late), 2);
        x.see(1, late);
        due("order: the same with 1", x.judged(1, late), 2);
        due("order: alike", x.alike(1, 3), true);
        x.undo(1, early);
        due("order: undone, no ring", x.judged(1, late), 1);
        due("order: undone, parent", x.object(1, 1, 0), 2);
    }

    private static void termsThreeHundredRows() {
        BinTrees x = Scenes.flat(2);
        for (int row = 5; row <= 299; row++) {
            due("300: row", x.move(row % 2, 1 + row % 2, 0, NONE), row);
        }
        due("300: the last", x.remove(0, 1, false), 300);
        due("300: make", x.make(0), NONE);
        due("300: move", x.move(0, 1, 0, NONE), NONE);
        due("300: remove", x.remove(0, 1, false), NONE);
        due("300: restore", x.remove(0, 1, true), NONE);
        due("300: undo", x.undo(0, 300), NONE);
        due("300: rows", x.total(0), 300);
        due("300: see", x.see(2, 300), 1);
        due("300: meet", x.meet(2, 1), x.total(11));
        due("300: meet", x.meet(2, 0), x.total(10) - 1);
        due("300: all known", x.total(12), 300);
        x.meet(1, 0);
        x.meet(0, 1);
        due("300: alike", x.alike(0, 1) && x.alike(1, 2), true);
        due("300: row 301", x.row(301, 0), NONE);
    }
}
