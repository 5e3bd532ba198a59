/** Each sentence under 'What it is' and 'Terms' that names an edge has a method of its own here. */
public final class TermsEdgeTest {
    private static final int MIN = Subject.MIN;
    private static final int MAX = Subject.MAX;

    private static final Answers answers = new Answers();

    /** A new object with some triples on branch 0, one version each. */
    private static Subject with(String sentence, int... triples) {
        Subject x = new Subject(answers, "Terms, '" + sentence + "'");
        for (int triple : triples) {
            x.put(0, triple, true);
        }
        return x;
    }

    private static int triple(int s, int p, int o) {
        return Subject.triple(s, p, o);
    }

    private static void calls() {
        Subject x = with("An object is used for at most 512 calls");
        x.fill(0, 4095, 400);
        while (x.calls() < Subject.MOST_CALLS - 2) {
            x.due(-4).put(0, 0, true);
        }
        x.due(4095).list(0, 0);
        x.due(399).head(0);
    }

    private static void points() {
        Subject x = with("POINTS are 0 .. 15");
        x.due(1).put(0, triple(15, 15, 15), true);
        x.due(2).put(0, triple(0, 0, 0), true);
        x.refused(-2).put(0, triple(15, 15, 15) + 1, true);
        x.refused(-2).put(0, triple(0, 0, 0) - 1, true);
        x.dueList(0, 0, 4095);
    }

    private static void blanks() {
        Subject x = with("0 .. 7 of them BLANKS", triple(0, 9, 9), triple(8, 9, 9));
        x.due(3).blank(0, 0, 7);
        x.due(4).blank(0, 7, 0);
        x.refused(-2).blank(0, 8, 1);
        x.refused(-2).blank(0, 0, 8);
        x.refused(-2).blank(0, -1, 1);
        x.refused(-2).blank(0, 0, -1);
        x.refused(-2).blank(0, 15, 1);
        x.dueList(0, triple(0, 9, 9), triple(8, 9, 9));
    }

    private static void numberOfATriple() {
        String sentence = "A TRIPLE (s, p, o) has the number 256 s + 16 p + o";
        Subject x = with(sentence, 15);
        x.blank(0, 0, 7);
        x.dueList(0, 256 * 7 + 16 * 7 + 15);
        Subject y = with(sentence, 256 * 15);
        y.blank(0, 0, 7);
        y.dueList(0, 256 * 15 + 16 * 7 + 7);
        Subject z = with(sentence, 16 * 15);
        z.blank(0, 0, 7);
        z.dueList(0, 256 * 7 + 16 * 15 + 7);
    }

    private static void key() {
        Subject x = with("its KEY is 16 s + p");
        x.branch(0);
        x.put(0, triple(0, 12, 0), true);
        x.put(1, triple(0, 12, 15), true);
        x.put(0, triple(15, 15, 0), true);
        x.put(1, triple(15, 15, 15), true);
        x.due(2).merge(0, 1);
        x.due(12).conflict(0, 0);
        x.due(255).conflict(1, 0);
    }

    private static void single() {
        String sentence = "Properties 12 .. 15 are SINGLE";
        for (int p = 0; p < 16; p++) {
            Subject x = with(sentence, triple(5, p, 0));
            x.branch(-1);
            x.put(1, triple(5, p, 15), true);
            x.due(p < 12 ? 0 : 1).merge(0, 1);
            x.put(0, triple(5, p, 1), true);
            x.due(p < 12 ? 1 : 0).report(0);
        }
    }

    private static void oneTripleOfAKey() {
        String sentence = "for a key of theirs there should be one triple at most";
        // Each has one: the last object of a key beside the first one of the next.
        Subject x = with(sentence, triple(5, 12, 15), triple(5, 13, 0), triple(5, 14, 15),
                triple(5, 15, 0), triple(6, 12, 0));
        x.due(1).report(0);
        x.branch(-1);
        x.put(1, triple(6, 13, 0), true);
        x.due(0).merge(0, 1);
        x.put(0, triple(6, 13, 15), true);
        x.due(0).report(0);
    }

    private static void versionsFrom0() {
        Subject x = with("VERSIONS are numbered from 0");
        x.due(0).head(0);
        x.due(1).put(0, 5, true);
        x.due(2).versions();
        x.due(-1).revert(0, -1);
        x.due(0).revert(0, 0);
        x.due(1).revert(0, 1);
        x.due(-1).revert(0, 3);
    }

    private static final String MOST_VERSIONS = "at most 400";

    private static void lastVersionByPut() {
        Subject x = with(MOST_VERSIONS);
        x.fill(0, 100, 399);
        x.due(399).put(0, 5, true);
        x.refused(-4).put(0, 6, true);
        x.refused(-4).put(0, 5, false);
        x.due(400).versions();
        x.due(399).head(0);
        x.dueList(0, 5);
    }

    private static void lastVersionByBranch() {
        Subject x = with(MOST_VERSIONS);
        x.fill(0, 100, 399);
        x.due(1).branch(-1);
        x.due(399).head(1);
        x.refused(-4).branch(-1);
        x.due(2).branches();
        x.due(2).branch(1);
        x.due(399).head(2);
    }

    private static void lastVersionByBlank() {
        Subject x = with(MOST_VERSIONS, triple(1, 9, 9));
        x.branch(-1);
        x.fill(1, 100, 399);
        x.due(399).blank(0, 1, 2);
        x.refused(-4).blank(0, 2, 1);
        x.dueList(0, triple(2, 9, 9));
    }

    private static void lastVersionByMerge() {
        Subject x = with(MOST_VERSIONS, 1);
        x.branch(-1);
        x.branch(-1);
        x.put(1, 2, true);
        x.fill(2, 100, 399);
        x.due(0).merge(0, 1);
        x.due(399).head(0);
        x.refused(-4).merge(0, 2);
        x.refused(-4).merge(2, 1);
        x.dueList(0, 1, 2);
    }

    private static void lastVersionByApply() {
        Subject x = with(MOST_VERSIONS, 1, 2);
        x.branch(-1);
        x.fill(1, 100, 399);
        x.due(1).apply(0, -2);
        x.due(399).head(0);
        x.refused(-4).apply(0, -3);
        x.dueList(0, 2);
    }

    private static void lastVersionByRevert() {
        Subject x = with(MOST_VERSIONS, 1, 2);
        x.branch(-1);
        x.fill(1, 100, 399);
        x.due(1).revert(0, 1);
        x.due(399).head(0);
        x.refused(-4).revert(0, 2);
        x.due(-4).revert(0, 399);
        x.dueList(0, 2);
    }

    private static void lastVersionIsUsed() {
        Subject x = with(MOST_VERSIONS);
        x.fill(0, 100, 400);
        x.due(399).base(0, 0);
        x.due(100).patch(0, 399, 0);
        x.due(-1).patch(0, 400, 0);
        x.due(-1).patch(400, 0, 0);
        x.due(-400).inverse(399);
        x.due(-1).inverse(400);
        x.due(399).history(100, 398);
        x.due(-2).history(100, 399);
        x.due(1).branch(0);
        x.due(399).head(1);
    }

    private static void parents() {
        Subject x = with("and no, one or two parents", 1);
        x.branch(0);
        x.put(0, 2, true);
        x.put(1, 3, true);
        x.merge(0, 1);
        // Version 0 has none, 1 to 3 have one, and 4 has two.
        x.due(0).revert(0, 0);
        x.due(-3).revert(0, 4);
        x.due(3).base(0, 1);
        x.due(1).revert(0, 2);
        x.due(1).revert(0, 3);
        x.due(1).revert(0, 1);
        x.dueList(0);
    }

    private static void ancestors() {
        String sentence = "The ANCESTORS of a version are itself, its parents, theirs, and so on";
        Subject x = with(sentence, 1);
        x.due(1).base(0, 0);
        x.branch(0);
        x.due(0).merge(0, 1);
        x.due(1).head(0);
        x.due(1).revert(0, 1);
        // The longest row of parents that there can be.
        Subject far = with(sentence, 1);
        far.branch(0);
        far.fill(0, 100, 400);
        far.due(1).base(0, 1);
        far.due(1).base(1, 0);
        far.due(-4).revert(0, 1);
        far.due(-3).revert(1, 2);
        far.due(0).merge(1, 0);
        far.due(399).head(1);
    }

    private static void ancestorsByBothParents() {
        Subject x = with("its parents, theirs, and so on", 1, 2);
        x.branch(-1);
        x.put(1, 3, true);
        x.put(1, 4, true);
        x.branch(1);
        x.put(1, 5, true);
        x.due(0).merge(0, 1);
        x.put(0, 6, true);
        // By the second parent, and that one's parents.
        x.due(5).base(0, 2);
        x.due(1).revert(0, 4);
        x.due(1).revert(0, 6);
        // By the first one's.
        x.due(1).revert(0, 1);
        x.dueList(0, 2, 4, 6);
    }

    private static void change() {
        Subject x = with("The CHANGE of a version is what its set has that its first parent's has not", 1);
        x.branch(0);
        x.put(0, 2, true);
        x.put(0, 1, false);
        x.put(1, 3, true);
        x.due(0).merge(0, 1);
        x.dueList(0, 2, 3);
        // Version 5's change is by 3, its first parent: 3 added; by 4 it would be 2 added, 1 removed.
        x.branch(-1);
        x.due(1).apply(2, 5);
        x.dueList(2, 3);
        x.due(1).apply(2, -6);
        x.dueList(2);
    }

    private static void removedToo() {
        Subject x = with("and the other way round (REMOVED)", 7);
        x.blank(0, 7, 6);
        x.dueHistory(7, 1, 2);
        x.dueHistory(6, 2);
        x.branch(-1);
        x.due(0).apply(1, 2);
        x.put(1, 7, true);
        x.due(1).apply(1, 2);
        x.dueList(1, 6);
    }

    private static void changeWithoutParents() {
        Subject x = with("of one without parents it is its set, added", 1);
        x.branch(-1);
        for (int patch : new int[] {0, -1, 2, -3}) {
            x.due(0).apply(0, patch);
            x.due(0).apply(1, patch);
        }
        x.due(0).revert(0, 0);
        x.due(0).revert(1, 2);
        x.dueHistory(0);
        x.dueHistory(1, 1);
        x.due(3).versions();
    }

    private static void branchesFrom0() {
        Subject x = with("BRANCHES are numbered from 0");
        x.due(0).head(0);
        x.due(-1).head(-1);
        x.due(-1).head(1);
        x.due(1).branch(0);
        x.due(0).head(1);
        x.due(-1).head(2);
    }

    private static void mostBranches() {
        Subject x = with("at most 40");
        for (int number = 1; number < 40; number++) {
            x.due(number).branch(0);
        }
        x.refused(-4).branch(39);
        x.refused(-4).branch(-1);
        x.due(40).branches();
        x.due(1).versions();
        x.due(1).put(39, 4, true);
        x.due(-1).put(40, 4, true);
        x.due(0).merge(0, 39);
        x.due(1).head(0);
    }

    private static void lastBranchOfANewVersion() {
        Subject x = with("at most 40");
        for (int number = 1; number < 40; number++) {
            x.due(number).branch(-1);
        }
        x.due(39).head(39);
        x.refused(-4).branch(-1);
        x.due(40).versions();
        x.due(40).put(39, 4, true);
    }

    private static void patchNumbers() {
        Subject x = with("n not below 0 is the change of version n, -1 - n is that turned round", 1);
        x.due(-1).inverse(0);
        x.due(0).inverse(-1);
        x.due(-2).inverse(1);
        x.due(1).inverse(-2);
        x.due(0).apply(0, 0);
        x.due(0).apply(0, -1);
        x.due(1).apply(0, -2);
        x.due(1).apply(0, 1);
        x.refused(-1).apply(0, 4);
        x.refused(-1).apply(0, -5);
        x.due(1).apply(0, -4);
    }

    private static void patchNumbersWrapAround() {
        Subject x = with("n not below 0 is the change of version n, -1 - n is that turned round", 1);
        for (int patch : new int[] {MIN, MIN + 1, MAX, MAX - 1, -401, -402, 400, 401}) {
            x.refused(-1).apply(0, patch);
            x.due(-1).inverse(patch);
        }
    }

    private static void canBeLaid() {
        Subject x = with("It CAN BE LAID to a set, when all that it removes is there",
                triple(1, 9, 9), triple(9, 9, 1));
        x.blank(0, 1, 2);
        x.branch(-1);
        x.due(0).apply(1, 3);
        x.put(1, triple(1, 9, 9), true);
        x.due(0).apply(1, 3);
        x.dueList(1, triple(1, 9, 9));
        x.put(1, triple(9, 9, 1), true);
        x.put(1, triple(1, 9, 9), false);
        x.due(0).apply(1, 3);
        x.put(1, triple(1, 9, 9), true);
        x.due(1).apply(1, 3);
        x.dueList(1, triple(2, 9, 9), triple(9, 9, 2));
        // What removes nothing can be laid to the empty set.
        x.branch(-1);
        x.due(1).apply(2, 2);
        x.dueList(2, triple(9, 9, 1));
    }

    private static void addedMayBeThere() {
        Subject x = with("what it adds may be there already", triple(1, 9, 9), triple(9, 9, 1));
        x.blank(0, 1, 2);
        x.branch(1);
        x.branch(-1);
        x.put(1, triple(1, 9, 9), true);
        x.put(1, triple(9, 9, 1), true);
        x.put(1, triple(2, 9, 9), true);
        x.due(1).apply(1, 3);
        x.dueList(1, triple(2, 9, 9), triple(9, 9, 2));
        x.put(1, triple(1, 9, 9), true);
        x.put(1, triple(9, 9, 1), true);
        x.due(1).apply(1, 3);
        x.dueList(1, triple(2, 9, 9), triple(9, 9, 2));
    }

    private static final String ORDER = "A refused call answers, the first of these that fits";

    private static void orderOfBranch() {
        Subject x = with(ORDER);
        for (int number = 1; number < 40; number++) {
            x.branch(0);
        }
        x.due(-1).branch(40);
        x.due(-1).branch(-2);
        x.due(-4).branch(-1);
        Subject y = with(ORDER);
        y.fill(0, 100, 400);
        y.refused(-1).branch(1);
        y.refused(-1).branch(-2);
        y.refused(-4).branch(-1);
    }

    private static void orderOfPut() {
        Subject x = with(ORDER, 5);
        x.refused(-1).put(1, 4096, true);
        x.refused(-1).put(-1, 0, false);
        x.refused(-2).put(0, 4096, false);
        x.fill(0, 100, 400);
        x.refused(-1).put(1, 6, true);
        x.refused(-1).put(1, -1, false);
        x.refused(-2).put(0, -1, false);
        x.refused(-3).put(0, 5, true);
        x.refused(-3).put(0, 6, false);
        x.refused(-4).put(0, 6, true);
    }

    private static void orderOfBlank() {
        Subject x = with(ORDER, triple(1, 9, 9));
        x.refused(-1).blank(1, 8, 8);
        x.refused(-1).blank(-1, 0, 0);
        x.refused(-2).blank(0, 8, 8);
        x.refused(-2).blank(0, 0, 8);
        x.refused(-2).blank(0, -1, 1);
        Subject full = with(ORDER, triple(1, 9, 9));
        full.fill(0, 4095, 400);
        full.refused(-1).blank(1, 1, 2);
        full.refused(-2).blank(0, 1, 8);
        full.refused(-3).blank(0, 1, 1);
        full.refused(-3).blank(0, 2, 3);
        full.refused(-4).blank(0, 1, 2);
    }

    private static void orderOfBaseAndMerge() {
        Subject x = with(ORDER, 5);
        x.branch(-1);
        x.refused(-3).base(0, 1);
        x.refused(-1).base(2, 1);
        x.refused(-1).base(0, 2);
        x.fill(1, 100, 400);
        x.refused(-1).merge(0, 2);
        x.refused(-1).merge(2, 0);
        x.refused(-4).merge(0, 1);
    }

    private static void orderOfPatchAndList() {
        Subject x = with(ORDER, 5);
        x.refused(-1).patch(2, 0, -1);
        x.refused(-1).patch(0, 2, 4);
        x.refused(-2).patch(0, 1, 1);
        x.refused(-1).list(1, -1);
        x.refused(-2).list(0, 1);
    }

    private static void orderOfApply() {
        Subject x = with(ORDER, 5);
        x.fill(0, 100, 400);
        x.refused(-1).apply(1, 0);
        x.refused(-1).apply(0, 400);
        x.refused(-1).apply(0, -401);
        x.refused(-4).apply(0, -2);
    }

    private static void orderOfRevert() {
        Subject x = with(ORDER, 5);
        x.branch(-1);
        x.refused(-1).revert(2, 2);
        x.refused(-1).revert(1, 3);
        x.refused(-3).revert(1, 1);
        x.fill(1, 100, 399);
        x.due(0).merge(0, 1);
        x.refused(-3).revert(0, 399);
        x.refused(-3).revert(1, 1);
        x.refused(-4).revert(0, 1);
    }

    public static void main(String[] args) {
        calls();
        points();
        blanks();
        numberOfATriple();
        key();
        single();
        oneTripleOfAKey();
        versionsFrom0();
        lastVersionByPut();
        lastVersionByBranch();
        lastVersionByBlank();
        lastVersionByMerge();
        lastVersionByApply();
        lastVersionByRevert();
        lastVersionIsUsed();
        parents();
        ancestors();
        ancestorsByBothParents();
        change();
        removedToo();
        changeWithoutParents();
        branchesFrom0();
        mostBranches();
        lastBranchOfANewVersion();
        patchNumbers();
        patchNumbersWrapAround();
        canBeLaid();
        addedMayBeThere();
        orderOfBranch();
        orderOfPut();
        orderOfBlank();
        orderOfBaseAndMerge();
        orderOfPatchAndList();
        orderOfApply();
        orderOfRevert();
        answers.end("TermsEdgeTest");
    }
}
