/**
 * Branches of sets of triples: versions with parents, changes as patches both ways,
 * merges by the least common version, with conflicts; histories.
 */
public final class VersionMerge {
    private static final int NO_SUCH = -1;
    private static final int OUT_OF_RANGE = -2;
    private static final int MAY_NOT_BE = -3;
    private static final int NO_ROOM = -4;

    private static final int MOST_VERSIONS = 400;
    private static final int MOST_BRANCHES = 40;
    private static final int BLANKS = 8;
    private static final int TRIPLES = 4096;
    private static final int WORDS = 64;
    private static final int KEYS = 256;
    private static final int TRIPLES_OF_KEY = 16;
    private static final int FIRST_SINGLE = 12;

    private static final int FROM_NOTHING = -1;
    private static final int NONE = -1;

    private final Version[] versionRow = new Version[MOST_VERSIONS];
    private final Branch[] branchRow = new Branch[MOST_BRANCHES];
    private int versionCount;
    private int branchCount;

    /** Stands in where there is no parent and no base; it is never changed. */
    private final TripleSet nothing = new TripleSet();
    /** Of the latest merge that was not refused; conflicts are read from it. */
    private final TripleSet merged = new TripleSet();
    /** Each call makes its set here first, so that only a new version takes room. */
    private final TripleSet draft = new TripleSet();

    public VersionMerge() {
        addBranch(addVersion(null, null, nothing));
    }

    public int branch(int from) {
        Branch source = branchAt(from);
        if (source == null && from != FROM_NOTHING) {
            return NO_SUCH;
        }
        if (branchCount >= MOST_BRANCHES) {
            return NO_ROOM;
        }
        return addBranch(source == null ? addVersion(null, null, nothing) : source.head);
    }

    public int put(int branch, int triple, boolean adds) {
        Branch target = branchAt(branch);
        if (target == null) {
            return NO_SUCH;
        }
        if (!isTriple(triple)) {
            return OUT_OF_RANGE;
        }
        if (target.head.triples.has(triple) == adds) {
            return MAY_NOT_BE;
        }
        draft.becomeCopy(target.head.triples);
        draft.change(triple, adds);
        return advance(target, null, draft);
    }

    public int blank(int branch, int b, int other) {
        Branch target = branchAt(branch);
        if (target == null) {
            return NO_SUCH;
        }
        if (!isBlank(b) || !isBlank(other)) {
            return OUT_OF_RANGE;
        }
        TripleSet old = target.head.triples;
        if (b == other || !old.mentions(b) || old.mentions(other)) {
            return MAY_NOT_BE;
        }
        draft.becomeRenamed(old, b, other);
        return advance(target, null, draft);
    }

    public int head(int branch) {
        Branch target = branchAt(branch);
        return target == null ? NO_SUCH : target.head.number;
    }

    public int base(int a, int b) {
        Branch one = branchAt(a);
        Branch two = branchAt(b);
        if (one == null || two == null) {
            return NO_SUCH;
        }
        Version common = greatestCommon(one.head, two.head);
        return common == null ? MAY_NOT_BE : common.number;
    }

    public int merge(int branch, int other) {
        Branch target = branchAt(branch);
        Branch source = branchAt(other);
        if (target == null || source == null) {
            return NO_SUCH;
        }
        Version mine = target.head;
        Version theirs = source.head;
        if (mine.hasAncestor(theirs.number)) {
            merged.becomeCopy(nothing);
            return 0;
        }
        if (theirs.hasAncestor(mine.number)) {
            merged.becomeCopy(nothing);
            target.head = theirs;
            return 0;
        }
        return join(target, theirs);
    }

    public int conflict(int i, int what) {
        int key = merged.crowdedKey(i);
        if (key == NONE) {
            return OUT_OF_RANGE;
        }
        switch (what) {
            case 0:
                return key;
            case 1:
                return merged.leastOfKey(key);
            case 2:
                return merged.greatestOfKey(key);
            default:
                return OUT_OF_RANGE;
        }
    }

    public int patch(int from, int to, int i) {
        Version old = versionAt(from);
        Version next = versionAt(to);
        if (old == null || next == null) {
            return NO_SUCH;
        }
        draft.becomeDifference(old.triples, next.triples);
        int triple = draft.tripleAt(i);
        if (triple == NONE) {
            return OUT_OF_RANGE;
        }
        return next.triples.has(triple) ? triple : -10 - triple;
    }

    public int inverse(int patch) {
        return changedBy(patch) == null ? NO_SUCH : turnedRound(patch);
    }

    public int apply(int branch, int patch) {
        Branch target = branchAt(branch);
        Version changed = changedBy(patch);
        if (target == null || changed == null) {
            return NO_SUCH;
        }
        if (patch >= 0) {
            return lay(target, setBefore(changed), changed.triples);
        }
        return lay(target, changed.triples, setBefore(changed));
    }

    public int revert(int branch, int number) {
        Branch target = branchAt(branch);
        Version changed = versionAt(number);
        if (target == null || changed == null) {
            return NO_SUCH;
        }
        if (!target.head.hasAncestor(number) || changed.second != null) {
            return MAY_NOT_BE;
        }
        return lay(target, changed.triples, setBefore(changed));
    }

    public int history(int triple, int i) {
        if (!isTriple(triple) || i < 0) {
            return OUT_OF_RANGE;
        }
        int found = 0;
        for (int number = 0; number < MOST_VERSIONS; number++) {
            Version version = versionAt(number);
            if (version != null && version.second == null && changes(version, triple)) {
                if (found == i) {
                    return number;
                }
                found++;
            }
        }
        return OUT_OF_RANGE;
    }

    public int report(int branch) {
        Branch target = branchAt(branch);
        if (target == null) {
            return NO_SUCH;
        }
        return target.head.triples.crowdedKeys() == 0 ? 1 : 0;
    }

    public int list(int branch, int i) {
        Branch target = branchAt(branch);
        if (target == null) {
            return NO_SUCH;
        }
        int triple = target.head.triples.tripleAt(i);
        return triple == NONE ? OUT_OF_RANGE : triple;
    }

    public int versions() {
        return versionCount;
    }

    public int branches() {
        return branchCount;
    }

    private static boolean isTriple(int triple) {
        return triple >= 0 && triple < TRIPLES;
    }

    private static boolean isBlank(int point) {
        return point >= 0 && point < BLANKS;
    }

    private static int turnedRound(int patch) {
        return -1 - patch;
    }

    /** The branch with a number, or null when there is none. */
    private Branch branchAt(int number) {
        if (number < 0 || number >= branchCount || number >= MOST_BRANCHES) {
            return null;
        }
        return branchRow[number];
    }

    /** The version with a number, or null when there is none. */
    private Version versionAt(int number) {
        if (number < 0 || number >= versionCount || number >= MOST_VERSIONS) {
            return null;
        }
        return versionRow[number];
    }

    /** The version whose change a patch is, either way; null when there is no such patch. */
    private Version changedBy(int patch) {
        return versionAt(patch >= 0 ? patch : turnedRound(patch));
    }

    /** The set that a version's change starts from. */
    private TripleSet setBefore(Version version) {
        return version.first == null ? nothing : version.first.triples;
    }

    private boolean changes(Version version, int triple) {
        return version.triples.has(triple) != setBefore(version).has(triple);
    }

    private boolean isFull() {
        return versionCount >= MOST_VERSIONS;
    }

    /** A version more, or null when there is no room. */
    private Version addVersion(Version first, Version second, TripleSet triples) {
        if (versionCount < 0 || versionCount >= MOST_VERSIONS) {
            return null;
        }
        Version version = new Version(versionCount, first, second, triples);
        versionRow[versionCount] = version;
        versionCount++;
        return version;
    }

    /** A branch more: its number; -4 when there is no room for it or for its head. */
    private int addBranch(Version head) {
        if (head == null || branchCount < 0 || branchCount >= MOST_BRANCHES) {
            return NO_ROOM;
        }
        int number = branchCount;
        branchRow[number] = new Branch(head);
        branchCount++;
        return number;
    }

    /** Puts a new version with a set on top of a branch: the version; -4. */
    private int advance(Branch target, Version second, TripleSet triples) {
        Version version = addVersion(target.head, second, triples);
        if (version == null) {
            return NO_ROOM;
        }
        target.head = version;
        return version.number;
    }

    private Version greatestCommon(Version a, Version b) {
        // An ancestor is never later than its descendant.
        for (int number = Math.min(a.number, b.number); number >= 0; number--) {
            if (a.hasAncestor(number) && b.hasAncestor(number)) {
                return versionAt(number);
            }
        }
        return null;
    }

    /** Merges a head that is neither ancestor nor descendant of the branch's: the conflicts; -4. */
    private int join(Branch target, Version theirs) {
        // Room comes first: a refused merge must leave the conflicts told before.
        if (isFull()) {
            return NO_ROOM;
        }
        Version common = greatestCommon(target.head, theirs);
        TripleSet old = common == null ? nothing : common.triples;
        merged.becomeMerged(target.head.triples, theirs.triples, old);
        int conflicts = merged.crowdedKeys();
        if (conflicts == 0) {
            advance(target, theirs, merged);
        }
        return conflicts;
    }

    /** Lays the patch that leads from one set to another to a branch's head: 1, 0; -4. */
    private int lay(Branch target, TripleSet from, TripleSet to) {
        TripleSet old = target.head.triples;
        if (!old.hasAllRemoved(from, to)) {
            return 0;
        }
        // By the document -4 asks only that the patch can be laid, not that it changes something.
        if (isFull()) {
            return NO_ROOM;
        }
        draft.becomeLaid(old, from, to);
        if (draft.isSameAs(old)) {
            return 0;
        }
        advance(target, null, draft);
        return 1;
    }

    private static final class Branch {
        private Version head;

        private Branch(Version head) {
            this.head = head;
        }
    }

    /** A version with its set and parents; a parent is null where there is none. */
    private static final class Version {
        private final int number;
        private final Version first;
        private final Version second;
        private final TripleSet triples = new TripleSet();
        /** Kept whole for each version, so that no call has to walk the parents. */
        private final boolean[] ancestors = new boolean[MOST_VERSIONS];

        private Version(int number, Version first, Version second, TripleSet triples) {
            this.number = number;
            this.first = first;
            this.second = second;
            this.triples.becomeCopy(triples);
            takeAncestors(first);
            takeAncestors(second);
            if (number >= 0 && number < MOST_VERSIONS) {
                ancestors[number] = true;
            }
        }

        private void takeAncestors(Version parent) {
            if (parent == null) {
                return;
            }
            for (int i = 0; i < MOST_VERSIONS; i++) {
                if (parent.ancestors[i]) {
                    ancestors[i] = true;
                }
            }
        }

        private boolean hasAncestor(int other) {
            return other >= 0 && other < MOST_VERSIONS && ancestors[other];
        }
    }

    /** A set of triples: triple t is bit t % 64 of word t / 64, so a word holds four keys. */
    private static final class TripleSet {
        private final long[] words = new long[WORDS];

        private boolean has(int triple) {
            return isTriple(triple) && ((words[triple >> 6] >>> (triple & 63)) & 1L) != 0L;
        }

        private void change(int triple, boolean there) {
            if (!isTriple(triple)) {
                return;
            }
            long bit = 1L << (triple & 63);
            if (there) {
                words[triple >> 6] |= bit;
            } else {
                words[triple >> 6] &= ~bit;
            }
        }

        private void becomeCopy(TripleSet other) {
            System.arraycopy(other.words, 0, words, 0, WORDS);
        }

        private void becomeDifference(TripleSet a, TripleSet b) {
            for (int w = 0; w < WORDS; w++) {
                words[w] = a.words[w] ^ b.words[w];
            }
        }

        private void becomeMerged(TripleSet a, TripleSet b, TripleSet old) {
            for (int w = 0; w < WORDS; w++) {
                long added = (a.words[w] | b.words[w]) & ~old.words[w];
                words[w] = added | (a.words[w] & b.words[w]);
            }
        }

        private void becomeLaid(TripleSet set, TripleSet from, TripleSet to) {
            for (int w = 0; w < WORDS; w++) {
                long removed = from.words[w] & ~to.words[w];
                long added = to.words[w] & ~from.words[w];
                words[w] = (set.words[w] & ~removed) | added;
            }
        }

        private void becomeRenamed(TripleSet set, int point, int other) {
            for (int w = 0; w < WORDS; w++) {
                words[w] = 0L;
            }
            for (int triple = 0; triple < TRIPLES; triple++) {
                if (set.has(triple)) {
                    change(renamed(triple, point, other), true);
                }
            }
        }

        private static int renamed(int triple, int point, int other) {
            int s = subject(triple) == point ? other : subject(triple);
            int p = property(triple) == point ? other : property(triple);
            int o = object(triple) == point ? other : object(triple);
            return 256 * s + 16 * p + o;
        }

        private static int subject(int triple) {
            return triple >> 8;
        }

        private static int property(int triple) {
            return (triple >> 4) & 15;
        }

        private static int object(int triple) {
            return triple & 15;
        }

        /** Whether a point stands in a triple, as its subject, property or object. */
        private boolean mentions(int point) {
            for (int triple = 0; triple < TRIPLES; triple++) {
                if (has(triple) && (subject(triple) == point || property(triple) == point
                        || object(triple) == point)) {
                    return true;
                }
            }
            return false;
        }

        private boolean hasAllRemoved(TripleSet from, TripleSet to) {
            for (int w = 0; w < WORDS; w++) {
                long removed = from.words[w] & ~to.words[w];
                if ((removed & ~words[w]) != 0L) {
                    return false;
                }
            }
            return true;
        }

        private boolean isSameAs(TripleSet other) {
            for (int w = 0; w < WORDS; w++) {
                if (words[w] != other.words[w]) {
                    return false;
                }
            }
            return true;
        }

        /** Triple i by their numbers, or NONE. */
        private int tripleAt(int i) {
            int left = i;
            for (int w = 0; w < WORDS && left >= 0; w++) {
                int here = Long.bitCount(words[w]);
                if (left < here) {
                    return tripleInWord(w, left);
                }
                left -= here;
            }
            return NONE;
        }

        private int tripleInWord(int word, int i) {
            int left = i;
            for (int triple = 64 * word; triple < 64 * word + 64; triple++) {
                if (has(triple)) {
                    if (left == 0) {
                        return triple;
                    }
                    left--;
                }
            }
            return NONE;
        }

        /** Whether a key should have one triple at most, and has more. */
        private boolean isCrowded(int key) {
            if ((key & 15) < FIRST_SINGLE) {
                return false;
            }
            int count = 0;
            for (int o = 0; o < TRIPLES_OF_KEY; o++) {
                if (has(TRIPLES_OF_KEY * key + o)) {
                    count++;
                }
            }
            return count >= 2;
        }

        private int crowdedKeys() {
            int count = 0;
            for (int key = 0; key < KEYS; key++) {
                if (isCrowded(key)) {
                    count++;
                }
            }
            return count;
        }

        /** Crowded key i by their numbers, or NONE. */
        private int crowdedKey(int i) {
            int count = 0;
            for (int key = 0; key < KEYS; key++) {
                if (isCrowded(key)) {
                    if (count == i) {
                        return key;
                    }
                    count++;
                }
            }
            return NONE;
        }

        private int leastOfKey(int key) {
            for (int o = 0; o < TRIPLES_OF_KEY; o++) {
                if (has(TRIPLES_OF_KEY * key + o)) {
                    return TRIPLES_OF_KEY * key + o;
                }
            }
            return NONE;
        }

        private int greatestOfKey(int key) {
            for (int o = TRIPLES_OF_KEY - 1; o >= 0; o--) {
                if (has(TRIPLES_OF_KEY * key + o)) {
                    return TRIPLES_OF_KEY * key + o;
                }
            }
            return NONE;
        }
    }
}
