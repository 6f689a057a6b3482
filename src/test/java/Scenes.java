/** Objects of BinTrees in some state that tests start from. */
final class Scenes {
    private static final int NONE = BinTrees.NONE;

    private Scenes() {
    }

    /** Node 0 makes so many objects, and puts them under THE ROOT in their order: rows 2, 4, 6 .. */
    static BinTrees flat(int objects) {
        BinTrees x = new BinTrees();
        for (int o = 1; o <= objects; o++) {
            x.make(0);
            x.move(0, o, 0, o == 1 ? NONE : o - 1);
        }
        return x;
    }

    /** Node 0 makes so many objects: 1 under THE ROOT, 2 under 1, 3 under 2 .., by rows 2, 4, 6 .. */
    static BinTrees chain(int objects) {
        BinTrees x = new BinTrees();
        for (int o = 1; o <= objects; o++) {
            x.make(0);
            x.move(0, o, o - 1, NONE);
        }
        return x;
    }

    /** Node 0 makes so many objects, and leaves them in THE BIN. */
    static BinTrees made(int objects) {
        BinTrees x = new BinTrees();
        for (int o = 1; o <= objects; o++) {
            x.make(0);
        }
        return x;
    }

    /** Two objects under THE ROOT by rows 1 to 4, then moves by nodes 0 and 1 until so many rows stand. */
    static BinTrees rows(int rows) {
        BinTrees x = flat(2);
        for (int row = 5; row <= rows; row++) {
            x.move(row % 2, 1 + row % 2, 0, NONE);
        }
        return x;
    }

    /** Every sort of row by two nodes, something passed over, undone, removed; node 2 knows a part, 3 nothing. */
    static BinTrees mixed() {
        BinTrees x = chain(3);
        x.make(0);
        x.meet(1, 0);
        x.move(1, 4, 0, 1);
        x.move(1, 1, 3, NONE);
        x.remove(0, 2, false);
        x.remove(0, 2, true);
        x.remove(0, 4, false);
        x.undo(0, 11);
        x.see(2, 3);
        x.see(2, 1);
        x.see(2, 12);
        return x;
    }
}
