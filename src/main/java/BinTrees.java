/** A tree that four people change at once; each one's tree comes of the rows known there. */
public final class BinTrees {
    public static final int NONE = -1;

    private static final int NODES = 4;
    private static final int OBJECTS = 40;
    private static final int ROWS = 300;
    private static final int DEEPEST = 8;
    private static final int ROOT = 0;

    private static final int MAKE = 0;
    private static final int MOVE = 1;
    private static final int REMOVE = 2;
    private static final int RESTORE = 3;
    private static final int UNDO = 4;

    private static final int UNKNOWN = 0;
    private static final int ACTS = 1;
    private static final int PASSED_OVER = 2;
    private static final int UNDONE = 3;

    private final Log log;
    private final Person[] people;

    public BinTrees() {
        log = new Log();
        people = new Person[NODES];
        for (int n = 0; n < NODES; n++) {
            people[n] = new Person();
        }
    }

    public int make(int node) {
        if (!mayWrite(node) || log.made >= OBJECTS - 1) {
            return NONE;
        }
        log.made++;
        told(node, log.add(MAKE, node, people[node].time + 1, log.made, NONE, NONE));
        return log.made;
    }

    public int move(int node, int object, int to, int behind) {
        if (!mayWrite(node) || !isMade(object) || !isObject(to)) {
            return NONE;
        }
        // THE ROOT is an OBJECT too, so it may be told as the one behind which; it never is a child.
        if (behind != NONE && !isObject(behind)) {
            return NONE;
        }
        return told(node, log.add(MOVE, node, people[node].time + 1, object, to, behind));
    }

    public int remove(int node, int object, boolean back) {
        if (!mayWrite(node) || !isMade(object)) {
            return NONE;
        }
        int sort = back ? RESTORE : REMOVE;
        return told(node, log.add(sort, node, people[node].time + 1, object, NONE, NONE));
    }

    public int undo(int node, int row) {
        if (!mayWrite(node) || !isRow(row) || !log.mayBeUndoneBy(node, row)) {
            return NONE;
        }
        return told(node, log.add(UNDO, node, people[node].time + 1, row, NONE, NONE));
    }

    public int see(int node, int row) {
        if (!isNode(node) || !isRow(row) || people[node].knows(row)) {
            return NONE;
        }
        told(node, row);
        return people[node].lastCost;
    }

    public int meet(int node, int other) {
        if (!isNode(node) || !isNode(other) || node == other) {
            return NONE;
        }
        Person one = people[node];
        int news = 0;
        for (int i = 0; i < log.count; i++) {
            int row = log.ordered[i];
            if (people[other].knows(row) && !one.knows(row)) {
                one.learn(log, row);
                news++;
            }
        }
        // The tree comes of what is known alone, so once for all the new rows is enough.
        if (news > 0) {
            one.judgeAll(log);
        }
        return news;
    }

    public int cost(int node) {
        return isNode(node) ? people[node].lastCost : NONE;
    }

    public int object(int node, int object, int what) {
        if (!isNode(node) || !isObject(object)) {
            return NONE;
        }
        Tree tree = people[node].tree;
        if (!tree.there[object]) {
            return NONE;
        }
        switch (what) {
            case 0:
                return tree.parent[object];
            case 1:
                return tree.stepsUp(object, tree.topOf(object));
            case 2:
                return tree.childCount(object);
            case 3:
                return tree.topOf(object) == ROOT ? 0 : 1;
            case 4:
                return tree.placeOf(object);
            case 5:
                return tree.wasLast[object];
            default:
                return NONE;
        }
    }

    public int child(int node, int object, int k) {
        if (!isNode(node)) {
            return NONE;
        }
        Tree tree = people[node].tree;
        if (object != NONE && (!isObject(object) || !tree.there[object])) {
            return NONE;
        }
        return tree.childAt(object, k);
    }

    public int row(int row, int what) {
        if (!isRow(row)) {
            return NONE;
        }
        switch (what) {
            case 0:
                return log.sort[row];
            case 1:
                return log.node[row];
            case 2:
                return log.time[row];
            case 3:
                return log.subject[row];
            case 4:
                return log.parent[row];
            case 5:
                return log.behind[row];
            default:
                return NONE;
        }
    }

    public int judged(int node, int row) {
        return isNode(node) && isRow(row) ? people[node].takes[row] : NONE;
    }

    public boolean alike(int a, int b) {
        return isNode(a) && isNode(b) && people[a].tree.sameAs(people[b].tree);
    }

    public int total(int what) {
        if (what == 0) {
            return log.count;
        }
        if (what == 1) {
            return log.made + 1;
        }
        if (what < 10 || !isNode(what % 10)) {
            return NONE;
        }
        Person person = people[what % 10];
        switch (what / 10) {
            case 1:
                return person.known;
            case 2:
                return person.time;
            case 3:
                return person.tree.size + 1;
            case 4:
                return person.tree.childCount(NONE);
            default:
                return NONE;
        }
    }

    private static boolean isNode(int node) {
        return node >= 0 && node < NODES;
    }

    private boolean isObject(int object) {
        return object >= ROOT && object <= log.made;
    }

    private boolean isMade(int object) {
        return object > ROOT && object <= log.made;
    }

    private boolean isRow(int row) {
        return row >= 1 && row <= log.count;
    }

    private boolean mayWrite(int node) {
        return isNode(node) && log.count < ROWS;
    }

    private int told(int node, int row) {
        Person person = people[node];
        person.learn(log, row);
        // A row behind all others leaves what the others did as it is.
        if (person.lastCost == 1 && log.sort[row] != UNDO) {
            person.judge(log, row);
        } else {
            person.judgeAll(log);
        }
        return row;
    }

    /** All rows that were made, by number from 1, whoever knows them. */
    private static final class Log {
        final int[] sort = new int[ROWS + 1];
        final int[] node = new int[ROWS + 1];
        final int[] time = new int[ROWS + 1];
        /** The OBJECT; of an UNDO the ROW. */
        final int[] subject = new int[ROWS + 1];
        final int[] parent = new int[ROWS + 1];
        final int[] behind = new int[ROWS + 1];
        /** The UNDO of a row, 0 while there is none. */
        final int[] undoing = new int[ROWS + 1];
        /** The numbers of the rows in their ORDER. */
        final int[] ordered = new int[ROWS];
        int count;
        int made;

        /** Writes a row down where there is room for it (the caller has looked): its number. */
        int add(int sortOf, int by, int at, int about, int to, int after) {
            int row = count + 1;
            sort[row] = sortOf;
            node[row] = by;
            time[row] = at;
            subject[row] = about;
            parent[row] = to;
            behind[row] = after;
            if (sortOf == UNDO) {
                undoing[about] = row;
            }
            putInOrder(row);
            count = row;
            return row;
        }

        private void putInOrder(int row) {
            int at = count;
            for (; at > 0 && isAhead(row, ordered[at - 1]); at--) {
                ordered[at] = ordered[at - 1];
            }
            ordered[at] = row;
        }

        private boolean isAhead(int a, int b) {
            return time[a] < time[b] || time[a] == time[b] && node[a] < node[b];
        }

        boolean mayBeUndoneBy(int by, int row) {
            return node[row] == by && sort[row] >= MOVE && sort[row] <= RESTORE && undoing[row] == 0;
        }
    }

    /** What one NODE knows, and the tree that comes of it. */
    private static final class Person {
        /** How each row is taken, by its number; at 0 there is no row, so it stays UNKNOWN. */
        final int[] takes = new int[ROWS + 1];
        final Tree tree = new Tree();
        int known;
        int time;
        int lastCost;

        boolean knows(int row) {
            return takes[row] != UNKNOWN;
        }

        /** Takes note of a row; the tree is as before until the row is judged. */
        void learn(Log log, int row) {
            takes[row] = ACTS;
            known++;
            time = Math.max(time, log.time[row]);
            lastCost = countFrom(log, log.sort[row] == UNDO ? log.subject[row] : row);
        }

        private int countFrom(Log log, int first) {
            if (!knows(first)) {
                return 0;
            }
            int counted = 0;
            for (int i = log.count - 1; i >= 0; i--) {
                int row = log.ordered[i];
                if (knows(row) && log.sort[row] != UNDO) {
                    counted++;
                }
                if (row == first) {
                    break;
                }
            }
            return counted;
        }

        void judgeAll(Log log) {
            tree.startAnew();
            for (int i = 0; i < log.count; i++) {
                if (knows(log.ordered[i])) {
                    judge(log, log.ordered[i]);
                }
            }
        }

        void judge(Log log, int row) {
            if (log.sort[row] != UNDO && knows(log.undoing[row])) {
                takes[row] = UNDONE;
                return;
            }
            boolean acts = true;
            int about = log.subject[row];
            switch (log.sort[row]) {
                case MAKE:
                    tree.bringIn(about);
                    break;
                case MOVE:
                    acts = tree.moveTo(about, log.parent[row], log.behind[row]);
                    break;
                case REMOVE:
                    acts = tree.throwAway(about);
                    break;
                case RESTORE:
                    acts = tree.bringBack(about);
                    break;
                default:
                    break;
            }
            takes[row] = acts ? ACTS : PASSED_OVER;
        }
    }

    /** A tree with its bin; as a parent, NONE is THE BIN (and THE ROOT has none). */
    private static final class Tree {
        final boolean[] there = new boolean[OBJECTS];
        final int[] parent = new int[OBJECTS];
        final int[] wasLast = new int[OBJECTS];
        /** All that are there but THE ROOT, so that the children of each parent are in their order. */
        final int[] line = new int[OBJECTS];
        int size;

        Tree() {
            startAnew();
        }

        void startAnew() {
            for (int o = 0; o < OBJECTS; o++) {
                there[o] = o == ROOT;
            }
            parent[ROOT] = NONE;
            wasLast[ROOT] = NONE;
            size = 0;
        }

        void bringIn(int object) {
            there[object] = true;
            wasLast[object] = ROOT;
            putAt(size, object, NONE);
        }

        boolean moveTo(int object, int to, int behind) {
            if (!mayLie(object, to)) {
                return false;
            }
            takeOut(object);
            putAt(spotBehind(behind, to), object, to);
            wasLast[object] = to;
            return true;
        }

        boolean throwAway(int object) {
            if (!there[object] || parent[object] == NONE) {
                return false;
            }
            takeOut(object);
            putAt(size, object, NONE);
            return true;
        }

        boolean bringBack(int object) {
            if (!there[object] || parent[object] != NONE) {
                return false;
            }
            int to = mayLie(object, wasLast[object]) ? wasLast[object] : ROOT;
            if (!mayLie(object, to)) {
                return false;
            }
            takeOut(object);
            putAt(size, object, to);
            wasLast[object] = to;
            return true;
        }

        private boolean mayLie(int object, int to) {
            if (!there[object] || !there[to]) {
                return false;
            }
            int above = stepsUp(to, ROOT);
            if (above == NONE || stepsUp(to, object) != NONE) {
                return false;
            }
            for (int i = 0; i < size; i++) {
                int below = stepsUp(line[i], object);
                if (below != NONE && above + 1 + below > DEEPEST) {
                    return false;
                }
            }
            return true;
        }

        /** How many steps go up from one that is there to another; NONE if it is not above it. */
        int stepsUp(int from, int to) {
            int at = from;
            for (int steps = 0; steps < OBJECTS && at != NONE; steps++) {
                if (at == to) {
                    return steps;
                }
                at = parent[at];
            }
            return NONE;
        }

        /** The highest one above one that is there: THE ROOT, or what lies in THE BIN itself. */
        int topOf(int object) {
            int at = object;
            for (int steps = 0; steps < OBJECTS && parent[at] != NONE; steps++) {
                at = parent[at];
            }
            return at;
        }

        private void takeOut(int object) {
            int kept = 0;
            for (int i = 0; i < size; i++) {
                if (line[i] != object) {
                    line[kept] = line[i];
                    kept++;
                }
            }
            size = kept;
        }

        /** Room is always left: the line lacks THE ROOT. */
        private void putAt(int spot, int object, int to) {
            for (int i = size; i > spot; i--) {
                line[i] = line[i - 1];
            }
            line[spot] = object;
            parent[object] = to;
            size++;
        }

        private int spotBehind(int behind, int to) {
            for (int i = 0; i < size; i++) {
                if (line[i] == behind && parent[behind] == to) {
                    return i + 1;
                }
            }
            return 0;
        }

        int childCount(int of) {
            int counted = 0;
            for (int i = 0; i < size; i++) {
                if (parent[line[i]] == of) {
                    counted++;
                }
            }
            return counted;
        }

        int childAt(int of, int k) {
            int ahead = 0;
            for (int i = 0; i < size; i++) {
                if (parent[line[i]] == of) {
                    if (ahead == k) {
                        return line[i];
                    }
                    ahead++;
                }
            }
            return NONE;
        }

        /** Which one of its parent's children one that is there is, from 0. */
        int placeOf(int object) {
            if (object == ROOT) {
                return 0;
            }
            int ahead = 0;
            for (int i = 0; i < size && line[i] != object; i++) {
                if (parent[line[i]] == parent[object]) {
                    ahead++;
                }
            }
            return ahead;
        }

        boolean sameAs(Tree other) {
            for (int o = 0; o < OBJECTS; o++) {
                if (there[o] != other.there[o]) {
                    return false;
                }
                if (there[o] && (parent[o] != other.parent[o] || placeOf(o) != other.placeOf(o))) {
                    return false;
                }
            }
            return true;
        }
    }
}
