import java.util.ArrayList;
import java.util.Comparator;
import java.util.HashSet;
import java.util.List;
import java.util.Map;
import java.util.Set;
import java.util.TreeMap;

/** The document told again in the slowest way: every answer is worked out from the bare rows. */
final class Model {
    private static final int NONE = -1;

    record Row(int number, int sort, int node, int time, int about, int to, int behind) {
    }

    /** What comes of going through a node's rows. */
    private static final class Picture {
        final Map<Integer, List<Integer>> children = new TreeMap<>();
        final Map<Integer, Integer> last = new TreeMap<>();
        final Map<Integer, Integer> judged = new TreeMap<>();

        Picture() {
            children.put(NONE, new ArrayList<>());
            children.put(0, new ArrayList<>());
        }

        boolean there(int object) {
            return object >= 0 && children.containsKey(object);
        }

        /** NONE for THE BIN and for THE ROOT. */
        int parent(int object) {
            for (Map.Entry<Integer, List<Integer>> e : children.entrySet()) {
                if (e.getValue().contains(object)) {
                    return e.getKey();
                }
            }
            return NONE;
        }

        List<Integer> upwards(int object) {
            List<Integer> way = new ArrayList<>();
            for (int at = object; at != NONE; at = parent(at)) {
                way.add(at);
            }
            return way;
        }

        boolean binned(int object) {
            return !upwards(object).contains(0);
        }

        int deep(int object) {
            return upwards(object).size() - 1;
        }

        int height(int object) {
            int most = 0;
            for (int c : children.get(object)) {
                most = Math.max(most, 1 + height(c));
            }
            return most;
        }

        boolean may(int object, int to) {
            return there(object) && there(to) && !upwards(to).contains(object) && !binned(to)
                && deep(to) + 1 + height(object) <= 8;
        }

        void out(int object) {
            for (List<Integer> list : children.values()) {
                list.remove((Integer) object);
            }
        }

        boolean act(Row r) {
            int o = r.about;
            if (r.sort == 0) {
                children.put(o, new ArrayList<>());
                children.get(NONE).add(o);
                last.put(o, 0);
                return true;
            }
            if (r.sort == 1) {
                if (!may(o, r.to)) {
                    return false;
                }
                out(o);
                List<Integer> there = children.get(r.to);
                there.add(there.indexOf(r.behind) + 1, o);
                last.put(o, r.to);
                return true;
            }
            boolean lies = children.get(NONE).contains(o);
            if (!there(o) || lies != (r.sort == 3)) {
                return false;
            }
            int to = NONE;
            if (r.sort == 3) {
                to = may(o, last.get(o)) ? last.get(o) : 0;
                if (!may(o, to)) {
                    return false;
                }
                last.put(o, to);
            }
            out(o);
            children.get(to).add(o);
            return true;
        }
    }

    private final List<Row> rows = new ArrayList<>();
    private final List<Set<Integer>> known = new ArrayList<>();
    private final List<Picture> pictures = new ArrayList<>();
    private final int[] cost = new int[4];
    private int made;

    Model() {
        for (int n = 0; n < 4; n++) {
            known.add(new HashSet<>());
            pictures.add(new Picture());
        }
    }

    private static boolean node(int n) {
        return n >= 0 && n <= 3;
    }

    private boolean number(int row) {
        return row >= 1 && row <= rows.size();
    }

    private boolean thing(int object) {
        return object >= 0 && object <= made;
    }

    private Row get(int row) {
        return rows.get(row - 1);
    }

    private int time(int n) {
        return known.get(n).stream().mapToInt(r -> get(r).time).max().orElse(0);
    }

    private static Comparator<Row> order() {
        return Comparator.comparingInt(Row::time).thenComparingInt(Row::node);
    }

    private List<Row> ordered(int n) {
        return known.get(n).stream().map(this::get).sorted(order()).toList();
    }

    private boolean undone(int n, int row) {
        return known.get(n).stream().map(this::get).anyMatch(r -> r.sort == 4 && r.about == row);
    }

    private void learn(int n, int row) {
        known.get(n).add(row);
        Row told = get(row);
        int first = told.sort == 4 ? told.about : row;
        cost[n] = !known.get(n).contains(first) ? 0 : (int) ordered(n).stream()
            .filter(r -> r.sort != 4 && order().compare(r, get(first)) >= 0).count();
    }

    private void redraw(int n) {
        Picture p = new Picture();
        for (Row r : ordered(n)) {
            if (r.sort == 4) {
                p.judged.put(r.number, 1);
            } else if (undone(n, r.number)) {
                p.judged.put(r.number, 3);
            } else {
                p.judged.put(r.number, p.act(r) ? 1 : 2);
            }
        }
        pictures.set(n, p);
    }

    private int write(int n, int sort, int about, int to, int behind) {
        Row r = new Row(rows.size() + 1, sort, n, time(n) + 1, about, to, behind);
        rows.add(r);
        learn(n, r.number);
        redraw(n);
        return r.number;
    }

    int make(int n) {
        if (!node(n) || made == 39 || rows.size() == 300) {
            return NONE;
        }
        made++;
        write(n, 0, made, NONE, NONE);
        return made;
    }

    int move(int n, int o, int to, int behind) {
        boolean fine = node(n) && thing(o) && o != 0 && thing(to) && (behind == NONE || thing(behind));
        return fine && rows.size() < 300 ? write(n, 1, o, to, behind) : NONE;
    }

    int remove(int n, int o, boolean back) {
        boolean fine = node(n) && thing(o) && o != 0 && rows.size() < 300;
        return fine ? write(n, back ? 3 : 2, o, NONE, NONE) : NONE;
    }

    int undo(int n, int row) {
        if (!node(n) || !number(row) || rows.size() == 300) {
            return NONE;
        }
        Row r = get(row);
        if (r.node != n || r.sort < 1 || r.sort > 3 || undone(n, row)) {
            return NONE;
        }
        return write(n, 4, row, NONE, NONE);
    }

    int see(int n, int row) {
        if (!node(n) || !number(row) || known.get(n).contains(row)) {
            return NONE;
        }
        learn(n, row);
        redraw(n);
        return cost[n];
    }

    int meet(int n, int other) {
        if (!node(n) || !node(other) || n == other) {
            return NONE;
        }
        int news = 0;
        for (Row r : ordered(other)) {
            if (!known.get(n).contains(r.number)) {
                learn(n, r.number);
                news++;
            }
        }
        redraw(n);
        return news;
    }

    int cost(int n) {
        return node(n) ? cost[n] : NONE;
    }

    int object(int n, int o, int what) {
        if (!node(n) || !pictures.get(n).there(o)) {
            return NONE;
        }
        Picture p = pictures.get(n);
        return switch (what) {
            case 0 -> p.parent(o);
            case 1 -> p.deep(o);
            case 2 -> p.children.get(o).size();
            case 3 -> p.binned(o) ? 1 : 0;
            case 4 -> o == 0 ? 0 : p.children.get(p.parent(o)).indexOf(o);
            case 5 -> o == 0 ? NONE : p.last.get(o);
            default -> NONE;
        };
    }

    int child(int n, int o, int k) {
        if (!node(n) || !pictures.get(n).children.containsKey(o)) {
            return NONE;
        }
        List<Integer> list = pictures.get(n).children.get(o);
        return k >= 0 && k < list.size() ? list.get(k) : NONE;
    }

    int row(int row, int what) {
        if (!number(row)) {
            return NONE;
        }
        Row r = get(row);
        return switch (what) {
            case 0 -> r.sort;
            case 1 -> r.node;
            case 2 -> r.time;
            case 3 -> r.about;
            case 4 -> r.to;
            case 5 -> r.behind;
            default -> NONE;
        };
    }

    int judged(int n, int row) {
        return node(n) && number(row) ? pictures.get(n).judged.getOrDefault(row, 0) : NONE;
    }

    boolean alike(int a, int b) {
        return node(a) && node(b) && pictures.get(a).children.equals(pictures.get(b).children);
    }

    int total(int what) {
        if (what == 0) {
            return rows.size();
        }
        if (what == 1) {
            return made + 1;
        }
        for (int n = 0; n < 4; n++) {
            if (what == 10 + n) {
                return known.get(n).size();
            }
            if (what == 20 + n) {
                return time(n);
            }
            if (what == 30 + n) {
                return pictures.get(n).children.size() - 1;
            }
            if (what == 40 + n) {
                return pictures.get(n).children.get(NONE).size();
            }
        }
        return NONE;
    }
}
