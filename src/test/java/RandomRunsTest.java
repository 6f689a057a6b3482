import java.util.Random;

/** Long runs of calls, the same ones every time, each answer held against the Model's. */
public final class RandomRunsTest {
    private static final int RUNS = 240;
    private static final int CALLS = 512;

    private final Check check;
    private final Random random;
    private final BinTrees real = new BinTrees();
    private final Model model = new Model();
    private final int objects;
    private final int people;
    private final boolean chains;
    private final boolean wild;
    private final String name;

    private RandomRunsTest(Check check, int run) {
        this.check = check;
        random = new Random(run);
        objects = new int[] {3, 6, 12, 20, 45}[run % 5];
        people = 2 + run % 3;
        chains = run % 2 == 0;
        wild = run % 7 == 0;
        name = "run " + run + ", call ";
    }

    public static void main(String[] args) {
        Check check = new Check("RandomRunsTest");
        for (int run = 0; run < RUNS && !check.anyWrong(); run++) {
            new RandomRunsTest(check, run).go();
        }
        check.end();
    }

    private void go() {
        for (int call = 0; call < CALLS && !check.anyWrong(); call++) {
            if (random.nextInt(10) < 7) {
                change(name + call);
            } else {
                ask(name + call);
            }
            if (call % 64 == 63) {
                compareAll(name + call);
            }
        }
    }

    private int odd(int usual) {
        if (!wild || random.nextInt(6) > 0) {
            return usual;
        }
        int[] odds = {Integer.MIN_VALUE, -2, -1, 0, 4, 39, 40, 41, 300, 301, Integer.MAX_VALUE};
        return odds[random.nextInt(odds.length)];
    }

    private int node() {
        return odd(random.nextInt(people));
    }

    private int thing() {
        return odd(random.nextInt(Math.min(objects, model.total(1)) + 1));
    }

    private int someRow() {
        int rows = model.total(0);
        int back = random.nextBoolean() ? random.nextInt(12) : random.nextInt(rows + 2);
        return odd(rows + 1 - back);
    }

    private void change(String at) {
        int n = node();
        int o = thing();
        int kind = random.nextInt(20);
        if (kind < 3 && model.total(1) <= objects) {
            check.due(at + " make " + n, real.make(n), model.make(n));
        } else if (kind < 9) {
            int to = chains && random.nextInt(3) > 0 ? o - 1 : thing();
            int behind = random.nextInt(3) == 0 ? -1 : thing();
            check.due(at + " move " + n + " " + o + " " + to + " " + behind,
                real.move(n, o, to, behind), model.move(n, o, to, behind));
        } else if (kind < 13) {
            boolean back = random.nextInt(5) < 3;
            check.due(at + " remove " + n + " " + o + " " + back,
                real.remove(n, o, back), model.remove(n, o, back));
        } else if (kind < 15) {
            int row = someRow();
            check.due(at + " undo " + n + " " + row, real.undo(n, row), model.undo(n, row));
        } else if (kind < 19) {
            int row = someRow();
            check.due(at + " see " + n + " " + row, real.see(n, row), model.see(n, row));
        } else {
            int other = node();
            check.due(at + " meet " + n + " " + other, real.meet(n, other), model.meet(n, other));
        }
        check.due(at + " cost " + n, real.cost(n), model.cost(n));
    }

    private void ask(String at) {
        int n = node();
        int o = thing();
        int row = someRow();
        int what = odd(random.nextInt(8) - 1);
        check.due(at + " object " + n + " " + o + " " + what, real.object(n, o, what), model.object(n, o, what));
        check.due(at + " child " + n + " " + o + " " + what, real.child(n, o, what), model.child(n, o, what));
        check.due(at + " bin " + n + " " + what, real.child(n, -1, what), model.child(n, -1, what));
        check.due(at + " row " + row + " " + what, real.row(row, what), model.row(row, what));
        check.due(at + " judged " + n + " " + row, real.judged(n, row), model.judged(n, row));
        int other = node();
        check.due(at + " alike " + n + " " + other, real.alike(n, other), model.alike(n, other));
        int total = random.nextInt(60) - 2;
        check.due(at + " total " + total, real.total(total), model.total(total));
    }

    private void compareAll(String at) {
        for (int n = 0; n < 4; n++) {
            for (int o = -1; o <= 40; o++) {
                for (int what = 0; what <= 5; what++) {
                    check.due(at + " object " + n + " " + o + " " + what,
                        real.object(n, o, what), model.object(n, o, what));
                }
                for (int k = -1; k <= 8; k++) {
                    check.due(at + " child " + n + " " + o + " " + k, real.child(n, o, k), model.child(n, o, k));
                }
            }
            for (int row = 0; row <= 301; row++) {
                check.due(at + " judged " + n + " " + row, real.judged(n, row), model.judged(n, row));
            }
            for (int m = 0; m < 4; m++) {
                check.due(at + " alike " + n + " " + m, real.alike(n, m), model.alike(n, m));
            }
        }
        for (int row = 0; row <= 301; row++) {
            for (int what = -1; what <= 6; what++) {
                check.due(at + " row " + row + " " + what, real.row(row, what), model.row(row, what));
            }
        }
        for (int what = -20; what <= 120; what++) {
            check.due(at + " total " + what, real.total(what), model.total(what));
        }
    }
}
