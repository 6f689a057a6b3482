import java.util.ArrayList;
import java.util.List;
import java.util.function.Supplier;
import java.util.function.ToIntFunction;

/** Looks at calls that are refused: they answer NONE, and every later answer is as if they had not been. */
final class Refusals {
    /** So few that a scene, the call and these stay under the document's 512 calls. */
    private static final int AT_ONCE = 150;

    private static final List<ToIntFunction<BinTrees>> READINGS = readings();

    private final Check check;
    private final Supplier<BinTrees> scene;
    private final int[] before;

    Refusals(Check check, Supplier<BinTrees> scene) {
        this.check = check;
        this.scene = scene;
        before = readAll(x -> 0);
    }

    void due(String what, ToIntFunction<BinTrees> call) {
        check.due(what, call.applyAsInt(scene.get()), BinTrees.NONE);
        int[] after = readAll(call);
        int changed = 0;
        for (int i = 0; i < before.length; i++) {
            changed += before[i] == after[i] ? 0 : 1;
        }
        check.due(what + ", how many later answers it changes", changed, 0);
    }

    /** Each part of the readings is asked of a new object, so that none is called too often. */
    private int[] readAll(ToIntFunction<BinTrees> ahead) {
        int[] read = new int[READINGS.size()];
        for (int from = 0; from < read.length; from += AT_ONCE) {
            BinTrees x = scene.get();
            ahead.applyAsInt(x);
            for (int i = from; i < Math.min(from + AT_ONCE, read.length); i++) {
                read[i] = READINGS.get(i).applyAsInt(x);
            }
        }
        return read;
    }

    private static List<ToIntFunction<BinTrees>> readings() {
        List<ToIntFunction<BinTrees>> all = new ArrayList<>();
        for (int what = 0; what < 44; what++) {
            int w = what;
            all.add(x -> x.total(w));
        }
        for (int node = 0; node < 4; node++) {
            int n = node;
            all.add(x -> x.cost(n));
            all.add(x -> x.alike(n, (n + 1) % 4) ? 1 : 0);
            ofTree(all, n);
            for (int row = 1; row <= 300; row += row < 20 || row > 290 ? 1 : 10) {
                int r = row;
                all.add(x -> x.judged(n, r));
            }
        }
        for (int row = 1; row <= 300; row += row < 20 || row > 290 ? 1 : 10) {
            for (int what = 0; what < 6; what++) {
                int r = row;
                int w = what;
                all.add(x -> x.row(r, w));
            }
        }
        // A number or a TIME that the call had used up would show in the next rows.
        all.add(x -> x.make(0));
        all.add(x -> x.remove(3, 1, false));
        all.add(x -> x.row(x.total(0), 2));
        return all;
    }

    private static void ofTree(List<ToIntFunction<BinTrees>> all, int n) {
        for (int object = 0; object < 40; object += object < 6 || object > 36 ? 1 : 5) {
            for (int i = 0; i < 6; i++) {
                int o = object;
                int w = i;
                all.add(x -> x.object(n, o, w));
                all.add(x -> x.child(n, o - 1, w));
            }
        }
    }
}
