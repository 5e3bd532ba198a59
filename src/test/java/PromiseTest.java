/** For each promise of the document: ordinary inputs, the edges that it names, wrong inputs. */
public final class PromiseTest {
    private static final int MIN = Integer.MIN_VALUE;
    private static final int MAX = Integer.MAX_VALUE;
    private static final int[] NO_BRANCH_OR_VERSION = {-2, -3, MIN, MAX, 400, 40};

    private static final Answers answers = new Answers();

    private static void due(String call, long got, long want) {
        answers.due(call, got, want);
    }

    private static int triple(int s, int p, int o) {
        return 256 * s + 16 * p + o;
    }

    /** A new object on whose branch 0 each of the triples has been put, one version each. */
    private static VersionMerge with(int... triples) {
        VersionMerge x = new VersionMerge();
        for (int triple : triples) {
            x.put(0, triple, true);
        }
        return x;
    }

    /** Puts and takes away a triple on a branch until there are so many versions. */
    private static void fill(VersionMerge x, int branch, int triple, int versions) {
        boolean adds = true;
        while (x.versions() < versions) {
            due("a put of fill", x.put(branch, triple, adds), x.versions() - 1);
            adds = !adds;
        }
    }

    /** Asks list for all of a branch's head, and for one more. */
    private static void dueList(String when, VersionMerge x, int branch, int... triples) {
        for (int i = 0; i < triples.length; i++) {
            due(when + ", list(" + branch + ", " + i + ")", x.list(branch, i), triples[i]);
        }
        due(when + ", list past its end", x.list(branch, triples.length), -2);
    }

    private static void duePatch(String when, VersionMerge x, int from, int to, int... changes) {
        for (int i = 0; i < changes.length; i++) {
            due(when + ", patch(" + from + ", " + to + ", " + i + ")", x.patch(from, to, i), changes[i]);
        }
        due(when + ", patch past its end", x.patch(from, to, changes.length), -2);
    }

    private static void dueHistory(String when, VersionMerge x, int triple, int... versions) {
        for (int i = 0; i < versions.length; i++) {
            due(when + ", history(" + triple + ", " + i + ")", x.history(triple, i), versions[i]);
        }
        due(when + ", history past its end", x.history(triple, versions.length), -2);
    }

    private static void aNewObject() {
        VersionMerge x = new VersionMerge();
        due("1: branches", x.branches(), 1);
        due("1: versions", x.versions(), 1);
        due("1: head(0)", x.head(0), 0);
        due("1: base(0, 0)", x.base(0, 0), 0);
        due("1: report(0)", x.report(0), 1);
        due("1: conflict(0, 0)", x.conflict(0, 0), -2);
        dueList("1", x, 0);
        // Nothing is shared by two objects.
        x.put(0, 5, true);
        due("1: another object's head", new VersionMerge().head(0), 0);
    }

    private static void branch() {
        VersionMerge x = with(20, 10);
        due("2: branch(0)", x.branch(0), 1);
        due("2: its head", x.head(1), 2);
        due("2: no version more", x.versions(), 3);
        due("2: branch(-1)", x.branch(-1), 2);
        due("2: its head is new", x.head(2), 3);
        due("2: a version more", x.versions(), 4);
        dueList("2: the new one is empty", x, 2);
        due("2: it has no parents", x.base(0, 2), -3);
        due("2: branch(1)", x.branch(1), 3);
        due("2: branches", x.branches(), 4);
        x.put(1, 30, true);
        due("2: branches go apart", x.head(3), 2);
        for (int from : NO_BRANCH_OR_VERSION) {
            due("2: branch(" + from + ")", x.branch(from), -1);
        }
        due("2: branch(4)", x.branch(4), -1);
        due("2: a refused one adds no branch", x.branches(), 4);
        due("2: a refused one adds no version", x.versions(), 5);
    }

    private static void branchWithoutRoom() {
        VersionMerge x = new VersionMerge();
        for (int number = 1; number < 40; number++) {
            due("2: branch " + number, x.branch(number - 1), number);
        }
        due("2: the 41st", x.branch(0), -4);
        due("2: the 41st, a new version", x.branch(-1), -4);
        due("2: the 41st, from none", x.branch(40), -1);
        due("2: 40 branches", x.branches(), 40);
        due("2: no version by a refused one", x.versions(), 1);
        due("2: the last one's head", x.head(39), 0);

        VersionMerge full = new VersionMerge();
        fill(full, 0, 9, 399);
        due("2: version 399", full.branch(-1), 1);
        due("2: its head", full.head(1), 399);
        due("2: version 400", full.branch(-1), -4);
        due("2: a refused one adds no branch", full.branches(), 2);
        due("2: a head needs no version", full.branch(0), 2);
        due("2: wrong goes before room", full.branch(-2), -1);
    }

    private static void put() {
        VersionMerge x = new VersionMerge();
        due("3: put(0, 4095, true)", x.put(0, 4095, true), 1);
        due("3: put(0, 0, true)", x.put(0, 0, true), 2);
        due("3: put(0, 64, true)", x.put(0, 64, true), 3);
        dueList("3", x, 0, 0, 64, 4095);
        due("3: put(0, 0, false)", x.put(0, 0, false), 4);
        dueList("3", x, 0, 64, 4095);
        due("3: its head", x.head(0), 4);
        duePatch("3: the old version stays", x, 4, 3, 0);
        due("3: there already", x.put(0, 64, true), -3);
        due("3: not there", x.put(0, 65, false), -3);
        due("3: triple -1", x.put(0, -1, true), -2);
        due("3: triple 4096", x.put(0, 4096, false), -2);
        due("3: triple MIN", x.put(0, MIN, false), -2);
        due("3: triple MAX", x.put(0, MAX, true), -2);
        due("3: branch 1", x.put(1, 4096, true), -1);
        due("3: branch -1", x.put(-1, 7, true), -1);
        due("3: versions", x.versions(), 5);
        x.branch(0);
        due("3: put(1, 8, true)", x.put(1, 8, true), 5);
        due("3: its parent is the old head", x.base(0, 1), 4);
        dueList("3: other branches stay", x, 0, 64, 4095);
        fill(x, 1, 100, 400);
        due("3: no room", x.put(0, 1, true), -4);
        due("3: nothing changed goes before room", x.put(0, 64, true), -3);
        due("3: range goes before room", x.put(0, -1, true), -2);
        due("3: branch goes before room", x.put(2, 1, true), -1);
        due("3: the head stays", x.head(0), 4);
        due("3: 400 versions", x.versions(), 400);
    }

    private static void blank() {
        VersionMerge x = with(triple(1, 9, 9), triple(9, 1, 9), triple(9, 9, 1), triple(1, 1, 1),
                triple(8, 9, 10), triple(0, 7, 15));
        due("4: blank(0, 1, 3)", x.blank(0, 1, 3), 7);
        dueList("4: in all places", x, 0, triple(0, 7, 15), triple(3, 3, 3), triple(3, 9, 9),
                triple(8, 9, 10), triple(9, 3, 9), triple(9, 9, 3));
        due("4: its head", x.head(0), 7);
        due("4: blank(0, 7, 1)", x.blank(0, 7, 1), 8);
        due("4: blank(0, 0, 7)", x.blank(0, 0, 7), 9);
        due("4: the same", x.blank(0, 7, 7), -3);
        due("4: the same, in no triple", x.blank(0, 2, 2), -3);
        due("4: in no triple", x.blank(0, 0, 2), -3);
        due("4: the other one stands in one", x.blank(0, 3, 7), -3);
        due("4: as a property", x.blank(0, 3, 1), -3);
        due("4: 8 is no blank", x.blank(0, 8, 0), -2);
        due("4: other 8 is no blank", x.blank(0, 7, 8), -2);
        due("4: -1 is no blank", x.blank(0, -1, 0), -2);
        due("4: other -1 is no blank", x.blank(0, 7, -1), -2);
        due("4: range goes before the rest", x.blank(0, 9, 9), -2);
        due("4: MIN and MAX", x.blank(0, MIN, MAX), -2);
        due("4: branch goes before range", x.blank(1, 9, 9), -1);
        due("4: branch -1", x.blank(-1, 3, 0), -1);
        due("4: versions", x.versions(), 10);
        x.branch(0);
        due("4: blank(1, 3, 4)", x.blank(1, 3, 4), 10);
        due("4: its parent is the old head", x.base(0, 1), 9);
        fill(x, 1, triple(15, 15, 15), 400);
        due("4: no room", x.blank(0, 3, 4), -4);
        due("4: what may not be goes before room", x.blank(0, 0, 2), -3);
        due("4: range goes before room", x.blank(0, 8, 2), -2);
        due("4: the head stays", x.head(0), 9);
        blankOnItsOwn();
    }

    private static void blankOnItsOwn() {
        VersionMerge x = with(triple(12, 12, 5));
        due("4: as an object", x.blank(0, 5, 0), 2);
        dueList("4", x, 0, triple(12, 12, 0));
        VersionMerge y = with(triple(12, 5, 12));
        due("4: as a property", y.blank(0, 5, 7), 2);
        dueList("4", y, 0, triple(12, 7, 12));
        VersionMerge z = with(triple(5, 12, 12), triple(12, 12, 4));
        due("4: other stands as an object", z.blank(0, 5, 4), -3);
        due("4: as a subject", z.blank(0, 5, 6), 3);
        dueList("4", z, 0, triple(6, 12, 12), triple(12, 12, 4));
    }

    private static void head() {
        VersionMerge x = with(1, 2);
        x.branch(0);
        x.put(1, 3, true);
        due("5: head(0)", x.head(0), 2);
        due("5: head(1)", x.head(1), 3);
        for (int branch : NO_BRANCH_OR_VERSION) {
            due("5: head(" + branch + ")", x.head(branch), -1);
        }
        due("5: head(-1)", x.head(-1), -1);
        due("5: head(2)", x.head(2), -1);
    }

    private static void base() {
        VersionMerge x = with(1);
        x.branch(0);
        x.put(0, 2, true);
        x.put(1, 3, true);
        x.branch(-1);
        due("6: base(0, 1)", x.base(0, 1), 1);
        due("6: base(1, 0)", x.base(1, 0), 1);
        due("6: base(0, 0)", x.base(0, 0), 2);
        due("6: none", x.base(0, 2), -3);
        due("6: none, turned round", x.base(2, 1), -3);
        due("6: a is none", x.base(3, 0), -1);
        due("6: b is none", x.base(0, 3), -1);
        due("6: -1", x.base(-1, 0), -1);
        due("6: other -1", x.base(2, -1), -1);
        due("6: MIN, MAX", x.base(MIN, MAX), -1);
        // Both parents count: version 5 has 3 and 2.
        due("6: a merge", x.merge(1, 0), 0);
        due("6: by the second parent", x.base(0, 1), 2);
        due("6: it itself", x.base(1, 1), 5);
        // Roots later: branch 2 is version 4, joined with branch 1.
        due("6: a merge without a base", x.merge(2, 1), 0);
        due("6: to the root by the first parent", x.base(2, 2), 6);
        due("6: by the second parent", x.base(2, 1), 5);
        due("6: by parents of parents", x.base(2, 0), 2);
        // Criss-cross: 2 and 3 are both common, the greatest is told.
        VersionMerge y = with(1);
        y.branch(0);
        y.put(0, 2, true);
        y.put(1, 3, true);
        y.branch(0);
        y.merge(0, 1);
        y.merge(1, 2);
        due("6: criss-cross heads", 10 * y.head(0) + y.head(1), 45);
        due("6: criss-cross", y.base(0, 1), 3);
    }

    private static void mergeByAncestors() {
        VersionMerge x = with(1);
        x.branch(0);
        x.put(0, 2, true);
        due("7: an ancestor comes in", x.merge(0, 1), 0);
        due("7: nothing is done", x.head(0), 2);
        due("7: and no version", x.versions(), 3);
        due("7: a descendant comes in", x.merge(1, 0), 0);
        due("7: it becomes the head", x.head(1), 2);
        due("7: and no version", x.versions(), 3);
        due("7: the same head", x.merge(0, 1), 0);
        due("7: the same branch", x.merge(0, 0), 0);
        due("7: no version more", x.versions(), 3);
        due("7: branch 2", x.merge(2, 0), -1);
        due("7: other 2", x.merge(0, 2), -1);
        due("7: branch -1", x.merge(-1, 0), -1);
        due("7: other -1", x.merge(0, -1), -1);
        due("7: MIN, MAX", x.merge(MIN, MAX), -1);
    }

    private static void mergeOfSets() {
        // The base has 10, 11, 12, 13; each head takes one away, both take 12, each adds one, both add 30.
        VersionMerge x = with(10, 11, 12, 13);
        x.branch(0);
        x.put(0, 10, false);
        x.put(0, 12, false);
        x.put(0, 20, true);
        x.put(0, 30, true);
        x.put(1, 11, false);
        x.put(1, 12, false);
        x.put(1, 21, true);
        x.put(1, 30, true);
        due("7: no conflict", x.merge(0, 1), 0);
        due("7: a version more", x.head(0), 13);
        due("7: versions", x.versions(), 14);
        dueList("7: the merged set", x, 0, 13, 20, 21, 30);
        dueList("7: the other branch stays", x, 1, 10, 13, 21, 30);
        due("7: the other's head", x.head(1), 12);
        due("7: the other's head is a parent", x.base(0, 1), 12);
        x.branch(-1);
        x.put(2, 40, true);
        x.put(2, 13, true);
        due("7: without a base", x.merge(2, 1), 0);
        dueList("7: all of both", x, 2, 10, 13, 21, 30, 40);
        // The first parent is the branch's old head, the second one the other's.
        duePatch("7: the change by the first parent", x, 16, 17, 10, 21, 30);
        due("7: its inverse is laid", x.apply(2, -18), 1);
        dueList("7: the first parent's set", x, 2, 13, 40);
    }

    private static void mergeWithConflicts() {
        // Key 12 has one triple on each side, key 11 too, but is not single; key 28 two on one side.
        VersionMerge x = with(triple(0, 15, 0));
        x.branch(0);
        x.put(0, triple(0, 12, 3), true);
        x.put(0, triple(0, 11, 3), true);
        x.put(0, triple(1, 12, 4), true);
        x.put(0, triple(1, 12, 9), true);
        x.put(0, triple(15, 15, 15), true);
        x.put(1, triple(0, 12, 8), true);
        x.put(1, triple(0, 11, 8), true);
        x.put(1, triple(0, 12, 5), true);
        x.put(1, triple(2, 13, 5), true);
        int versions = x.versions();
        int mine = x.head(0);
        due("7: conflicts", x.merge(0, 1), 2);
        due("7: the head stays", x.head(0), mine);
        due("7: versions stay", x.versions(), versions);
        dueConflict("7, 8: the first", x, 0, 12, triple(0, 12, 3), triple(0, 12, 8));
        dueConflict("7, 8: the second", x, 1, 28, triple(1, 12, 4), triple(1, 12, 9));
        due("8: no third", x.conflict(2, 0), -2);
        due("8: another what", x.conflict(0, 3), -2);
        due("8: what -1", x.conflict(0, -1), -2);
        due("8: what MAX", x.conflict(1, MAX), -2);
        due("8: what MIN", x.conflict(1, MIN), -2);
        due("8: i -1", x.conflict(-1, 0), -2);
        due("8: i MIN", x.conflict(MIN, 1), -2);
        due("8: i MAX", x.conflict(MAX, 2), -2);
        due("7: a refused merge", x.merge(0, 2), -1);
        dueConflict("8: conflicts stay by a refused merge", x, 0, 12, triple(0, 12, 3), triple(0, 12, 8));
        x.put(0, triple(0, 12, 3), false);
        x.list(0, 0);
        x.patch(0, 3, 0);
        x.apply(0, -3);
        dueConflict("8: conflicts stay by other calls", x, 0, 12, triple(0, 12, 3), triple(0, 12, 8));
        due("7: nothing to do", x.merge(0, 0), 0);
        due("8: that was the latest merge", x.conflict(0, 0), -2);
        conflictsAreToldOfTheLatest();
    }

    private static void dueConflict(String when, VersionMerge x, int i, int key, int least, int greatest) {
        due(when + ": key", x.conflict(i, 0), key);
        due(when + ": least", x.conflict(i, 1), least);
        due(when + ": greatest", x.conflict(i, 2), greatest);
    }

    private static void conflictsAreToldOfTheLatest() {
        VersionMerge x = new VersionMerge();
        x.branch(0);
        x.put(0, triple(9, 14, 0), true);
        x.put(1, triple(9, 14, 15), true);
        due("8: a conflict", x.merge(0, 1), 1);
        dueConflict("8", x, 0, 158, triple(9, 14, 0), triple(9, 14, 15));
        x.branch(0);
        x.put(0, 1, true);
        due("8: a forward merge", x.merge(2, 0), 0);
        due("8: none after it", x.conflict(0, 1), -2);
        due("8: the conflict again", x.merge(1, 0), 1);
        dueConflict("8", x, 0, 158, triple(9, 14, 0), triple(9, 14, 15));
        x.put(1, triple(9, 14, 15), false);
        due("8: a merge without conflicts", x.merge(0, 1), 0);
        due("8: none after it", x.conflict(0, 2), -2);
    }

    private static void conflictsOfAllSingleKeys() {
        VersionMerge x = new VersionMerge();
        x.branch(0);
        for (int s = 0; s < 16; s++) {
            for (int p = 11; p < 16; p++) {
                x.put(0, triple(s, p, 7), true);
                x.put(1, triple(s, p, 6), true);
            }
        }
        due("8: all single keys", x.merge(1, 0), 64);
        for (int i = 0; i < 64; i++) {
            int key = 16 * (i / 4) + 12 + i % 4;
            dueConflict("8: of all", x, i, key, 16 * key + 6, 16 * key + 7);
        }
        due("8: no 65th", x.conflict(64, 0), -2);
    }

    private static void mergeWithoutRoom() {
        VersionMerge x = new VersionMerge();
        x.branch(0);
        x.branch(0);
        x.branch(0);
        x.put(0, triple(0, 12, 0), true);
        x.put(1, triple(0, 12, 1), true);
        x.put(2, 5, true);
        due("7: a conflict", x.merge(0, 1), 1);
        fill(x, 3, 100, 400);
        due("7: no room, with a conflict", x.merge(1, 0), -4);
        due("7: no room, without one", x.merge(1, 2), -4);
        due("7: branch goes before room", x.merge(1, 4), -1);
        dueConflict("8: conflicts stay", x, 0, 12, triple(0, 12, 0), triple(0, 12, 1));
        due("7: the head stays", x.head(1), 2);
        due("7: nothing to do needs no room", x.merge(1, 1), 0);
        due("8: that was the latest", x.conflict(0, 0), -2);

        VersionMerge y = new VersionMerge();
        y.branch(0);
        fill(y, 0, 100, 400);
        due("7: forward without room", y.merge(1, 0), 0);
        due("7: the new head", y.head(1), 399);
    }

    private static void patch() {
        VersionMerge x = with(100, 4095, 0);
        x.put(0, 100, false);
        x.branch(-1);
        x.put(1, 50, true);
        duePatch("9: what comes", x, 0, 3, 0, 100, 4095);
        duePatch("9: what goes", x, 3, 0, -10, -110, -4105);
        duePatch("9: one goes", x, 3, 4, -110);
        duePatch("9: without a common version", x, 4, 6, -10, 50, -4105);
        duePatch("9: turned round", x, 6, 4, 0, -60, 4095);
        duePatch("9: the same", x, 4, 4);
        duePatch("9: both empty", x, 0, 5);
        due("9: i -1", x.patch(0, 3, -1), -2);
        due("9: i MIN", x.patch(0, 3, MIN), -2);
        due("9: i MAX", x.patch(0, 3, MAX), -2);
        for (int version : NO_BRANCH_OR_VERSION) {
            due("9: from " + version, x.patch(version, 0, -1), -1);
            due("9: to " + version, x.patch(0, version, 0), -1);
        }
        due("9: from -1", x.patch(-1, 0, 0), -1);
        due("9: to 7", x.patch(0, 7, 0), -1);
        due("9: from 7", x.patch(7, 0, 0), -1);
        due("9: to -1", x.patch(0, -1, 0), -1);
    }

    private static void inverse() {
        VersionMerge x = with(1, 2);
        due("10: inverse(0)", x.inverse(0), -1);
        due("10: inverse(-1)", x.inverse(-1), 0);
        due("10: inverse(2)", x.inverse(2), -3);
        due("10: inverse(-3)", x.inverse(-3), 2);
        due("10: inverse(3)", x.inverse(3), -1);
        due("10: inverse(-4)", x.inverse(-4), -1);
        due("10: inverse(MAX)", x.inverse(MAX), -1);
        due("10: inverse(MIN)", x.inverse(MIN), -1);
    }

    private static void apply() {
        // Version 3 removes 7 and adds 64, by a blank's other name: (0, 0, 7) becomes (0, 0, 6).
        VersionMerge x = with(7, 200);
        due("11: a blank", x.blank(0, 7, 6), 3);
        x.branch(-1);
        due("11: what it removes is not there", x.apply(1, 3), 0);
        due("11: no version", x.versions(), 5);
        x.put(1, 7, true);
        due("11: it can be laid", x.apply(1, 3), 1);
        due("11: a new version", x.head(1), 6);
        due("11: its parent is the old head", x.base(0, 1), -3);
        dueList("11", x, 1, 6);
        due("11: turned round", x.apply(1, -4), 1);
        dueList("11", x, 1, 7);
        x.put(1, 6, true);
        due("11: what it adds may be there", x.apply(1, 3), 1);
        dueList("11", x, 1, 6);
        due("11: again", x.apply(1, 3), 0);
        due("11: an addition", x.apply(1, 2), 1);
        dueList("11", x, 1, 6, 200);
        due("11: it would change nothing", x.apply(1, 2), 0);
        due("11: the empty patch", x.apply(1, 0), 0);
        due("11: the empty one, turned round", x.apply(1, -1), 0);
        due("11: versions", x.versions(), 11);
        due("11: its version's change is that", x.apply(0, -11), 1);
        dueList("11", x, 0, 6);
        due("11: branch 2", x.apply(2, 0), -1);
        due("11: branch -1", x.apply(-1, 0), -1);
        due("11: patch 12", x.apply(0, 12), -1);
        due("11: patch -13", x.apply(0, -13), -1);
        due("11: patch MAX", x.apply(0, MAX), -1);
        due("11: patch MIN", x.apply(0, MIN), -1);
        applyPartly();
    }

    private static void applyPartly() {
        // A patch that removes two triples is not laid when only one of them is there.
        VersionMerge x = with(triple(1, 9, 9), triple(9, 9, 1));
        x.blank(0, 1, 2);
        x.branch(-1);
        x.put(1, triple(1, 9, 9), true);
        due("11: one is not there", x.apply(1, 3), 0);
        dueList("11: nothing is laid", x, 1, triple(1, 9, 9));
        due("11: branch's head as a parent", x.branch(1), 2);
        due("11: an addition", x.apply(2, 2), 1);
        due("11: its parent", x.base(1, 2), x.head(1));
        due("11: both are there", x.apply(2, 3), 1);
        dueList("11", x, 2, triple(2, 9, 9), triple(9, 9, 2));
    }

    private static void applyWithoutRoom() {
        VersionMerge x = with(7);
        x.branch(-1);
        fill(x, 1, 100, 400);
        due("11: it can be laid", x.apply(1, 1), -4);
        due("11: it can't be laid", x.apply(1, -2), 0);
        // The words: -4 when it can be laid; whether it would change something is not asked.
        due("11: it can be laid, and changes nothing", x.apply(0, 1), -4);
        due("11: branch goes before room", x.apply(2, 1), -1);
        due("11: patch goes before room", x.apply(1, 400), -1);
        due("11: the last patch", x.apply(1, -400), -4);
        due("11: 400 versions", x.versions(), 400);
        due("11: the head stays", x.head(1), 399);
    }

    private static void revert() {
        VersionMerge x = with(50, 60);
        x.put(0, 50, false);
        x.branch(0);
        due("12: an addition", x.revert(0, 2), 1);
        dueList("12", x, 0);
        due("12: a new version", x.head(0), 4);
        due("12: its parent is the old head", x.base(0, 1), 3);
        due("12: a removal", x.revert(0, 3), 1);
        dueList("12", x, 0, 50);
        due("12: it can't be laid", x.revert(0, 2), 0);
        due("12: it would change nothing", x.revert(0, 3), 0);
        due("12: the version without parents", x.revert(0, 0), 0);
        due("12: the head itself", x.revert(0, 5), 1);
        dueList("12", x, 0);
        due("12: no ancestor", x.revert(1, 4), -3);
        due("12: versions", x.versions(), 7);
        due("12: branch 2", x.revert(2, 0), -1);
        due("12: branch -1", x.revert(-1, 0), -1);
        due("12: version 7", x.revert(0, 7), -1);
        due("12: version -1", x.revert(0, -1), -1);
        due("12: MIN", x.revert(0, MIN), -1);
        due("12: MAX", x.revert(0, MAX), -1);
    }

    private static void revertWithMerges() {
        VersionMerge x = with(1);
        x.branch(0);
        x.put(0, 2, true);
        x.put(1, 3, true);
        due("12: a merge", x.merge(0, 1), 0);
        due("12: two parents", x.revert(0, 4), -3);
        due("12: by the second parent", x.revert(0, 3), 1);
        dueList("12", x, 0, 1, 2);
        due("12: no ancestor of the other", x.revert(1, 2), -3);
        due("12: two parents, and no ancestor", x.revert(1, 4), -3);
        x.branch(0);
        fill(x, 2, 100, 400);
        due("12: no room", x.revert(0, 2), -4);
        due("12: it can't be laid", x.revert(0, 3), 0);
        due("12: two parents go before room", x.revert(0, 4), -3);
        due("12: no ancestor goes before room", x.revert(1, 2), -3);
        due("12: version goes before room", x.revert(1, 400), -1);
        due("12: the head stays", x.head(0), 5);
    }

    private static void history() {
        VersionMerge x = with(10, 20);
        x.branch(0);
        x.put(0, 10, false);
        x.put(1, 30, true);
        due("13: a merge", x.merge(1, 0), 0);
        x.put(1, 10, true);
        x.branch(-1);
        x.put(2, 10, true);
        dueHistory("13: added and removed, on all branches", x, 10, 1, 3, 6, 8);
        dueHistory("13", x, 20, 2);
        dueHistory("13: none", x, 40);
        due("13: a merge without a base", x.merge(2, 1), 0);
        dueHistory("13: merges don't count", x, 20, 2);
        dueHistory("13: merges don't count", x, 30, 4);
        x.apply(2, -3);
        dueHistory("13: a patch counts", x, 20, 2, 10);
        x.put(0, 0, true);
        x.put(0, 4095, true);
        dueHistory("13: triple 0", x, 0, 11);
        dueHistory("13: triple 4095", x, 4095, 12);
        due("13: triple -1", x.history(-1, 0), -2);
        due("13: triple 4096", x.history(4096, 0), -2);
        due("13: triple MIN", x.history(MIN, 0), -2);
        due("13: i -1", x.history(10, -1), -2);
        due("13: i MIN", x.history(10, MIN), -2);
        due("13: i MAX", x.history(10, MAX), -2);
        VersionMerge full = new VersionMerge();
        fill(full, 0, 9, 400);
        due("13: the last version", full.history(9, 398), 399);
        due("13: none after it", full.history(9, 399), -2);
    }

    private static void report() {
        VersionMerge x = with(triple(3, 11, 0), triple(3, 11, 1), triple(3, 12, 0), triple(3, 13, 1));
        due("14: other keys may have more", x.report(0), 1);
        x.branch(0);
        x.put(0, triple(3, 12, 15), true);
        due("14: two triples of a single key", x.report(0), 0);
        due("14: another branch", x.report(1), 1);
        x.put(0, triple(3, 12, 0), false);
        due("14: one again", x.report(0), 1);
        for (int p = 0; p < 16; p++) {
            VersionMerge y = with(triple(p, p, 3), triple(p, p, 4));
            due("14: property " + p, y.report(0), p < 12 ? 1 : 0);
        }
        due("14: branch 2", x.report(2), -1);
        due("14: branch -1", x.report(-1), -1);
        due("14: MIN", x.report(MIN), -1);
        due("14: MAX", x.report(MAX), -1);
    }

    private static void list() {
        VersionMerge x = with(4095, 63, 64, 0, 127, 128, 65);
        dueList("15", x, 0, 0, 63, 64, 65, 127, 128, 4095);
        x.branch(-1);
        dueList("15: an empty one", x, 1);
        due("15: i -1", x.list(0, -1), -2);
        due("15: i MIN", x.list(0, MIN), -2);
        due("15: i MAX", x.list(0, MAX), -2);
        due("15: branch goes before i", x.list(2, -1), -1);
        due("15: branch -1", x.list(-1, 0), -1);
        due("15: branch MIN", x.list(MIN, 0), -1);
        due("15: branch MAX", x.list(MAX, 0), -1);
    }

    private static void versionsAndBranches() {
        VersionMerge x = new VersionMerge();
        x.put(0, 1, true);
        due("16: a put", x.versions(), 2);
        due("17: a put", x.branches(), 1);
        x.branch(0);
        due("16: a branch", x.versions(), 2);
        due("17: a branch", x.branches(), 2);
        x.branch(-1);
        due("16: a branch of a new version", x.versions(), 3);
        due("17: a branch of a new version", x.branches(), 3);
        x.put(1, 1, true);
        x.branch(7);
        due("16: refused ones", x.versions(), 3);
        due("17: refused ones", x.branches(), 3);
        x.put(2, 2, true);
        x.merge(2, 1);
        due("16: a merge", x.versions(), 5);
        x.apply(2, -2);
        due("16: a patch", x.versions(), 6);
        x.revert(2, 3);
        due("16: a revert", x.versions(), 7);
        due("17: at last", x.branches(), 3);
    }

    public static void main(String[] args) {
        aNewObject();
        branch();
        branchWithoutRoom();
        put();
        blank();
        head();
        base();
        mergeByAncestors();
        mergeOfSets();
        mergeWithConflicts();
        conflictsOfAllSingleKeys();
        mergeWithoutRoom();
        patch();
        inverse();
        apply();
        applyWithoutRoom();
        revert();
        revertWithMerges();
        history();
        report();
        list();
        versionsAndBranches();
        answers.end("PromiseTest");
    }
}
