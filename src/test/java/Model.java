import java.util.ArrayList;
import java.util.List;
import java.util.Set;
import java.util.TreeSet;

/**
 * The document again, word by word over the library's sets and without a thought for speed,
 * for ModelTest to compare the class with.
 */
final class Model {
    private record Version(Set<Integer> set, List<Integer> parents) {
    }

    private final List<Version> versions = new ArrayList<>();
    private final List<Integer> heads = new ArrayList<>();
    private Set<Integer> merged = new TreeSet<>();

    Model() {
        versions.add(new Version(Set.of(), List.of()));
        heads.add(0);
    }

    private boolean noBranch(int branch) {
        return branch < 0 || branch >= heads.size();
    }

    private boolean noVersion(int version) {
        return version < 0 || version >= versions.size();
    }

    private boolean noPatch(int patch) {
        return patch >= 0 ? noVersion(patch) : noVersion(-1 - patch);
    }

    private boolean full() {
        return versions.size() == 400;
    }

    private Set<Integer> headSet(int branch) {
        return versions.get(heads.get(branch)).set();
    }

    private Set<Integer> firstParentSet(int version) {
        List<Integer> parents = versions.get(version).parents();
        return parents.isEmpty() ? Set.of() : versions.get(parents.get(0)).set();
    }

    private static Set<Integer> minus(Set<Integer> a, Set<Integer> b) {
        Set<Integer> rest = new TreeSet<>(a);
        rest.removeAll(b);
        return rest;
    }

    private Set<Integer> added(int patch) {
        return patch >= 0 ? minus(versions.get(patch).set(), firstParentSet(patch))
                : minus(firstParentSet(-1 - patch), versions.get(-1 - patch).set());
    }

    private Set<Integer> removed(int patch) {
        return added(-1 - patch);
    }

    private Set<Integer> ancestors(int version) {
        Set<Integer> found = new TreeSet<>();
        List<Integer> open = new ArrayList<>(List.of(version));
        while (!open.isEmpty()) {
            int next = open.remove(open.size() - 1);
            if (found.add(next)) {
                open.addAll(versions.get(next).parents());
            }
        }
        return found;
    }

    private static List<Integer> crowded(Set<Integer> set) {
        List<Integer> keys = new ArrayList<>();
        for (int key = 0; key < 256; key++) {
            if (key % 16 >= 12 && ofKey(set, key).size() > 1) {
                keys.add(key);
            }
        }
        return keys;
    }

    private static TreeSet<Integer> ofKey(Set<Integer> set, int key) {
        TreeSet<Integer> found = new TreeSet<>();
        for (int triple : set) {
            if (triple / 16 == key) {
                found.add(triple);
            }
        }
        return found;
    }

    private int newHead(int branch, Set<Integer> set, List<Integer> parents) {
        versions.add(new Version(set, parents));
        heads.set(branch, versions.size() - 1);
        return versions.size() - 1;
    }

    int branch(int from) {
        if (from != -1 && noBranch(from)) return -1;
        if (heads.size() == 40 || from == -1 && full()) return -4;
        if (from == -1) {
            versions.add(new Version(Set.of(), List.of()));
            heads.add(versions.size() - 1);
        } else {
            heads.add(heads.get(from));
        }
        return heads.size() - 1;
    }

    int put(int branch, int triple, boolean adds) {
        if (noBranch(branch)) return -1;
        if (triple < 0 || triple > 4095) return -2;
        Set<Integer> set = new TreeSet<>(headSet(branch));
        boolean changes = adds ? set.add(triple) : set.remove(triple);
        if (!changes) return -3;
        if (full()) return -4;
        return newHead(branch, set, List.of(heads.get(branch)));
    }

    private static List<Integer> points(int triple) {
        return List.of(triple / 256, triple / 16 % 16, triple % 16);
    }

    int blank(int branch, int b, int other) {
        if (noBranch(branch)) return -1;
        if (b < 0 || b > 7 || other < 0 || other > 7) return -2;
        boolean stands = false;
        boolean otherStands = false;
        Set<Integer> set = new TreeSet<>();
        for (int triple : headSet(branch)) {
            stands |= points(triple).contains(b);
            otherStands |= points(triple).contains(other);
            int number = 0;
            for (int point : points(triple)) {
                number = 16 * number + (point == b ? other : point);
            }
            set.add(number);
        }
        if (b == other || !stands || otherStands) return -3;
        if (full()) return -4;
        return newHead(branch, set, List.of(heads.get(branch)));
    }

    int head(int branch) {
        return noBranch(branch) ? -1 : heads.get(branch);
    }

    int base(int a, int b) {
        if (noBranch(a) || noBranch(b)) return -1;
        TreeSet<Integer> common = new TreeSet<>(ancestors(heads.get(a)));
        common.retainAll(ancestors(heads.get(b)));
        return common.isEmpty() ? -3 : common.last();
    }

    int merge(int branch, int other) {
        if (noBranch(branch) || noBranch(other)) return -1;
        int mine = heads.get(branch);
        int theirs = heads.get(other);
        if (ancestors(mine).contains(theirs)) {
            merged = new TreeSet<>();
            return 0;
        }
        if (ancestors(theirs).contains(mine)) {
            merged = new TreeSet<>();
            heads.set(branch, theirs);
            return 0;
        }
        if (full()) return -4;
        int base = base(branch, other);
        Set<Integer> old = base == -3 ? Set.of() : versions.get(base).set();
        merged = new TreeSet<>();
        for (int triple = 0; triple < 4096; triple++) {
            boolean a = headSet(branch).contains(triple);
            boolean b = headSet(other).contains(triple);
            boolean c = old.contains(triple);
            if (a && a != c || b && b != c || a && b) {
                merged.add(triple);
            }
        }
        int conflicts = crowded(merged).size();
        if (conflicts == 0) {
            newHead(branch, merged, List.of(mine, theirs));
        }
        return conflicts;
    }

    int conflict(int i, int what) {
        List<Integer> keys = crowded(merged);
        if (i < 0 || i >= keys.size() || what < 0 || what > 2) return -2;
        TreeSet<Integer> triples = ofKey(merged, keys.get(i));
        return what == 0 ? keys.get(i) : what == 1 ? triples.first() : triples.last();
    }

    int patch(int from, int to, int i) {
        if (noVersion(from) || noVersion(to)) return -1;
        Set<Integer> comes = minus(versions.get(to).set(), versions.get(from).set());
        Set<Integer> goes = minus(versions.get(from).set(), versions.get(to).set());
        Set<Integer> all = new TreeSet<>(comes);
        all.addAll(goes);
        List<Integer> changes = new ArrayList<>(all);
        if (i < 0 || i >= changes.size()) return -2;
        return comes.contains(changes.get(i)) ? changes.get(i) : -10 - changes.get(i);
    }

    int inverse(int patch) {
        return noPatch(patch) ? -1 : -1 - patch;
    }

    int apply(int branch, int patch) {
        if (noBranch(branch) || noPatch(patch)) return -1;
        if (!headSet(branch).containsAll(removed(patch))) return 0;
        if (full()) return -4;
        Set<Integer> set = minus(headSet(branch), removed(patch));
        set.addAll(added(patch));
        if (set.equals(headSet(branch))) return 0;
        newHead(branch, set, List.of(heads.get(branch)));
        return 1;
    }

    int revert(int branch, int number) {
        if (noBranch(branch) || noVersion(number)) return -1;
        if (!ancestors(heads.get(branch)).contains(number)) return -3;
        if (versions.get(number).parents().size() == 2) return -3;
        return apply(branch, -1 - number);
    }

    int history(int triple, int i) {
        if (triple < 0 || triple > 4095) return -2;
        List<Integer> found = new ArrayList<>();
        for (int version = 0; version < versions.size(); version++) {
            if (versions.get(version).parents().size() < 2
                    && (added(version).contains(triple) || removed(version).contains(triple))) {
                found.add(version);
            }
        }
        return i < 0 || i >= found.size() ? -2 : found.get(i);
    }

    int report(int branch) {
        if (noBranch(branch)) return -1;
        return crowded(headSet(branch)).isEmpty() ? 1 : 0;
    }

    int list(int branch, int i) {
        if (noBranch(branch)) return -1;
        List<Integer> triples = new ArrayList<>(new TreeSet<>(headSet(branch)));
        return i < 0 || i >= triples.size() ? -2 : triples.get(i);
    }

    int versions() {
        return versions.size();
    }

    int branches() {
        return heads.size();
    }
}
