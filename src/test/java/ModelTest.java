import java.util.Random;

/** Runs of 512 calls each, drawn by fixed seeds, with the Model's answers as the due ones. */
public final class ModelTest {
    private static final int RUNS = 300;
    private static final int CALLS = 512;
    private static final int[] ODD = {-1, -2, 7, 8, 40, 399, 400, 4095, 4096,
            Integer.MIN_VALUE, Integer.MIN_VALUE + 1, Integer.MAX_VALUE};

    private final Answers answers;
    private final Random random;
    private final int run;
    private final int fillsUntil;
    private final int pool;
    private final VersionMerge x = new VersionMerge();
    private final Model model = new Model();

    private ModelTest(Answers answers, int run) {
        this.answers = answers;
        this.run = run;
        this.random = new Random(run);
        // Every third run first makes versions until there is hardly room.
        this.fillsUntil = run % 3 == 0 ? 390 + random.nextInt(11) : 0;
        this.pool = 1 + random.nextInt(3);
    }

    private int branch() {
        return random.nextInt(25) == 0 ? odd() : random.nextInt(Math.min(model.branches() + 1, 40));
    }

    private int version() {
        return random.nextInt(25) == 0 ? odd() : random.nextInt(model.versions() + 1);
    }

    private int odd() {
        return ODD[random.nextInt(ODD.length)];
    }

    /** A triple of a few points, so that runs meet the same ones again. */
    private int triple() {
        if (random.nextInt(40) == 0) {
            return odd();
        }
        if (pool == 3) {
            return random.nextInt(4096);
        }
        int s = random.nextInt(2 * pool);
        int p = random.nextBoolean() ? 12 + random.nextInt(4) : 6 + random.nextInt(3);
        return 256 * s + 16 * p + random.nextInt(3 * pool);
    }

    private int place() {
        return random.nextInt(25) == 0 ? odd() : random.nextInt(10);
    }

    private int patch() {
        int number = version();
        return random.nextBoolean() ? number : -1 - number;
    }

    private void due(int call, String name, int a, int b, int c, int got, int want) {
        answers.due("run " + run + ", call " + call + ": " + name + "(" + a + ", " + b + ", " + c + ")",
                got, want);
    }

    private void callOnce(int call) {
        if (model.versions() < fillsUntil) {
            fillOnce(call);
            return;
        }
        int kind = random.nextInt(24);
        if (kind < 11) {
            changeOnce(call, kind);
        } else {
            askOnce(call, kind);
        }
    }

    private void fillOnce(int call) {
        int branch = random.nextInt(model.branches());
        int t = random.nextInt(4096);
        int kind = random.nextInt(12);
        if (kind == 0) {
            due(call, "branch", branch, 0, 0, x.branch(branch), model.branch(branch));
        } else if (kind == 1) {
            int other = random.nextInt(model.branches());
            due(call, "merge", branch, other, 0, x.merge(branch, other), model.merge(branch, other));
        } else {
            due(call, "put", branch, t, 1, x.put(branch, t, true), model.put(branch, t, true));
        }
    }

    private void changeOnce(int call, int kind) {
        int a = branch();
        int b = branch();
        int t = triple();
        int p = patch();
        switch (kind) {
            case 0 -> {
                int from = random.nextInt(4) == 0 ? -1 : a;
                due(call, "branch", from, 0, 0, x.branch(from), model.branch(from));
            }
            case 1, 2, 3 -> due(call, "put", a, t, 1, x.put(a, t, true), model.put(a, t, true));
            case 4 -> due(call, "put", a, t, 0, x.put(a, t, false), model.put(a, t, false));
            case 5 -> {
                int one = place();
                int two = place();
                due(call, "blank", a, one, two, x.blank(a, one, two), model.blank(a, one, two));
            }
            case 6, 7 -> due(call, "merge", a, b, 0, x.merge(a, b), model.merge(a, b));
            case 8, 9 -> due(call, "apply", a, p, 0, x.apply(a, p), model.apply(a, p));
            default -> {
                int version = version();
                due(call, "revert", a, version, 0, x.revert(a, version), model.revert(a, version));
            }
        }
    }

    private void askOnce(int call, int kind) {
        int a = branch();
        int b = branch();
        int i = place();
        switch (kind) {
            case 11 -> due(call, "head", a, 0, 0, x.head(a), model.head(a));
            case 12, 13 -> due(call, "base", a, b, 0, x.base(a, b), model.base(a, b));
            case 14, 15 -> {
                int what = random.nextInt(20) == 0 ? odd() : random.nextInt(4);
                int at = i % 3;
                due(call, "conflict", at, what, 0, x.conflict(at, what), model.conflict(at, what));
            }
            case 16, 17 -> {
                int from = version();
                int to = version();
                due(call, "patch", from, to, i, x.patch(from, to, i), model.patch(from, to, i));
            }
            case 18 -> {
                int p = patch();
                due(call, "inverse", p, 0, 0, x.inverse(p), model.inverse(p));
            }
            case 19 -> {
                int t = triple();
                due(call, "history", t, i % 4, 0, x.history(t, i % 4), model.history(t, i % 4));
            }
            case 20 -> due(call, "report", a, 0, 0, x.report(a), model.report(a));
            case 21, 22 -> due(call, "list", a, i, 0, x.list(a, i), model.list(a, i));
            default -> {
                due(call, "versions", 0, 0, 0, x.versions(), model.versions());
                due(call, "branches", 0, 0, 0, x.branches(), model.branches());
            }
        }
    }

    public static void main(String[] args) {
        Answers answers = new Answers();
        for (int run = 0; run < RUNS; run++) {
            ModelTest test = new ModelTest(answers, run);
            for (int call = 0; call < CALLS; call++) {
                test.callOnce(call);
            }
        }
        answers.end("ModelTest");
    }
}
