/**
 * An object under test, for one sentence of the document: due(5).put(..) asks for an answer,
 * refused(-2).put(..) also that nothing a caller can see has changed, and put(..) alone prepares.
 * It counts the calls, for what is answered past the 512th is free and no test may ask for it.
 */
final class Subject {
    static final int MIN = Integer.MIN_VALUE;
    static final int MAX = Integer.MAX_VALUE;
    static final int MOST_CALLS = 512;
    static final int MOST_VERSIONS = 400;

    private final VersionMerge x = new VersionMerge();
    private final Answers answers;
    private final String sentence;
    private int calls;
    private boolean isDue;
    private int wanted;
    private String before;

    Subject(Answers answers, String sentence) {
        this.answers = answers;
        this.sentence = sentence;
    }

    static int triple(int s, int p, int o) {
        return 256 * s + 16 * p + o;
    }

    Subject due(int answer) {
        isDue = true;
        wanted = answer;
        return this;
    }

    Subject refused(int answer) {
        before = state();
        return due(answer);
    }

    int calls() {
        return calls;
    }

    private int answered(String call, int got) {
        calls++;
        if (calls > MOST_CALLS) {
            answers.due(sentence + ": the test's calls on one object", calls, MOST_CALLS);
        }
        if (isDue) {
            answers.due(sentence + ": " + call, got, wanted);
        }
        isDue = false;
        if (before != null) {
            String after = state();
            answers.due(sentence + ": " + call + " is refused, but turns " + before + " into " + after
                    + "; the same", before.equals(after) ? 1 : 0, 1);
            before = null;
        }
        return got;
    }

    /** All that is told of the heads and the conflicts. */
    private String state() {
        StringBuilder text = new StringBuilder();
        int branches = x.branches();
        text.append(x.versions()).append(" versions, ").append(branches).append(" branches");
        calls += 2;
        for (int branch = 0; branch < branches; branch++) {
            text.append(", head ").append(x.head(branch)).append(" of");
            calls++;
            int triple = 0;
            for (int i = 0; triple >= 0; i++) {
                triple = x.list(branch, i);
                text.append(' ').append(triple);
                calls++;
            }
        }
        int least = 0;
        for (int i = 0; least >= 0; i++) {
            least = x.conflict(i, 1);
            text.append(", conflict ").append(least);
            calls++;
        }
        return text.toString();
    }

    /** Puts and takes away a triple on a branch until there are so many versions. */
    void fill(int branch, int triple, int versions) {
        boolean adds = true;
        for (int version = x.versions(); version < versions; version++) {
            due(version).put(branch, triple, adds);
            adds = !adds;
        }
        calls++;
    }

    /** Asks for all of a branch's head, and for one more. */
    void dueList(int branch, int... triples) {
        for (int i = 0; i < triples.length; i++) {
            due(triples[i]).list(branch, i);
        }
        due(-2).list(branch, triples.length);
    }

    void duePatch(int from, int to, int... changes) {
        for (int i = 0; i < changes.length; i++) {
            due(changes[i]).patch(from, to, i);
        }
        due(-2).patch(from, to, changes.length);
    }

    void dueHistory(int triple, int... versions) {
        for (int i = 0; i < versions.length; i++) {
            due(versions[i]).history(triple, i);
        }
        due(-2).history(triple, versions.length);
    }

    void dueConflict(int i, int key, int least, int greatest) {
        due(key).conflict(i, 0);
        due(least).conflict(i, 1);
        due(greatest).conflict(i, 2);
    }

    int branch(int from) {
        return answered("branch(" + from + ")", x.branch(from));
    }

    int put(int branch, int triple, boolean adds) {
        return answered("put(" + branch + ", " + triple + ", " + adds + ")", x.put(branch, triple, adds));
    }

    int blank(int branch, int b, int other) {
        return answered("blank(" + branch + ", " + b + ", " + other + ")", x.blank(branch, b, other));
    }

    int head(int branch) {
        return answered("head(" + branch + ")", x.head(branch));
    }

    int base(int a, int b) {
        return answered("base(" + a + ", " + b + ")", x.base(a, b));
    }

    int merge(int branch, int other) {
        return answered("merge(" + branch + ", " + other + ")", x.merge(branch, other));
    }

    int conflict(int i, int what) {
        return answered("conflict(" + i + ", " + what + ")", x.conflict(i, what));
    }

    int patch(int from, int to, int i) {
        return answered("patch(" + from + ", " + to + ", " + i + ")", x.patch(from, to, i));
    }

    int inverse(int patch) {
        return answered("inverse(" + patch + ")", x.inverse(patch));
    }

    int apply(int branch, int patch) {
        return answered("apply(" + branch + ", " + patch + ")", x.apply(branch, patch));
    }

    int revert(int branch, int number) {
        return answered("revert(" + branch + ", " + number + ")", x.revert(branch, number));
    }

    int history(int triple, int i) {
        return answered("history(" + triple + ", " + i + ")", x.history(triple, i));
    }

    int report(int branch) {
        return answered("report(" + branch + ")", x.report(branch));
    }

    int list(int branch, int i) {
        return answered("list(" + branch + ", " + i + ")", x.list(branch, i));
    }

    int versions() {
        return answered("versions()", x.versions());
    }

    int branches() {
        return answered("branches()", x.branches());
    }
}
