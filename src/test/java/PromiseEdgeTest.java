/** Each sentence under 'Promise 1' to 'Promise 17' that names an edge has a method of its own here. */
public final class PromiseEdgeTest {
    private static final int MIN = Subject.MIN;
    private static final int MAX = Subject.MAX;

    private static final Answers answers = new Answers();

    /** A new object with some triples on branch 0, one version each. */
    private static Subject with(String sentence, int... triples) {
        Subject x = new Subject(answers, "Promise " + sentence);
        for (int triple : triples) {
            x.put(0, triple, true);
        }
        return x;
    }

    private static int triple(int s, int p, int o) {
        return Subject.triple(s, p, o);
    }

    /** Numbers that are no branch where there are so many, and no version where there are so many. */
    private static int[] noneOf(int count) {
        return new int[] {count, -1, -2, MIN, MAX, 4096};
    }

    private static void oneBranch() {
        Subject x = with("1: One branch (0), whose head is version 0");
        x.due(1).branches();
        x.due(1).versions();
        x.due(0).head(0);
        x.due(-1).head(1);
        x.due(-2).conflict(0, 0);
        x.due(1).report(0);
    }

    private static void withoutTriplesAndParents() {
        Subject x = with("1: without triples and parents");
        x.dueList(0);
        x.duePatch(0, 0);
        x.dueHistory(0);
        x.dueHistory(4095);
        x.due(0).base(0, 0);
        x.due(0).revert(0, 0);
        x.branch(-1);
        x.due(-3).base(0, 1);
        // Objects share nothing.
        Subject other = with("1: without triples and parents", 7);
        Subject next = with("1: without triples and parents");
        other.dueList(0, 7);
        next.dueList(0);
        next.due(1).versions();
    }

    private static void branchOfAnother() {
        Subject x = with("2: A branch more, with the head of another one", 5);
        x.due(1).branch(0);
        x.due(1).head(1);
        x.due(2).branch(1);
        x.due(1).head(2);
        x.due(2).versions();
        x.put(2, 6, true);
        x.due(1).head(0);
        x.due(1).head(1);
        x.due(3).branch(2);
        x.due(2).head(3);
        x.dueList(3, 5, 6);
    }

    private static void branchOfANewVersion() {
        Subject x = with("2: (from = -1) with a new version without triples and parents", 5);
        x.due(1).branch(-1);
        x.due(2).head(1);
        x.due(3).versions();
        x.dueList(1);
        x.due(-3).base(0, 1);
        x.due(2).branch(-1);
        x.due(3).head(2);
        x.due(-3).base(1, 2);
    }

    private static void branchRefused() {
        Subject x = with("2: -1", 5);
        x.branch(0);
        for (int from : new int[] {2, -2, -3, 40, MIN, MAX}) {
            x.refused(-1).branch(from);
        }
    }

    private static void branchWithoutRoomForABranch() {
        Subject x = with("2: -4", 5);
        for (int number = 1; number < 40; number++) {
            x.due(number).branch(number - 1);
        }
        x.refused(-4).branch(0);
        x.due(-4).branch(39);
        x.due(-4).branch(-1);
        x.due(2).versions();
        x.due(40).branches();
    }

    private static void branchWithoutRoomForAVersion() {
        Subject x = with("2: -4");
        x.fill(0, 100, 400);
        x.refused(-4).branch(-1);
        // Another one's head asks for no version.
        x.due(1).branch(0);
        x.due(399).head(1);
        x.refused(-4).branch(-1);
    }

    private static void putThere() {
        Subject x = with("3: in which a triple is there, too", 64);
        x.due(2).put(0, 63, true);
        x.due(3).put(0, 0, true);
        x.due(4).put(0, 4095, true);
        x.dueList(0, 0, 63, 64, 4095);
        x.due(4).head(0);
    }

    private static void putAway() {
        Subject x = with("3: or is not there", 0, 63, 64, 4095);
        x.due(5).put(0, 4095, false);
        x.due(6).put(0, 0, false);
        x.due(7).put(0, 64, false);
        x.dueList(0, 63);
        x.due(8).put(0, 63, false);
        x.dueList(0);
    }

    private static void putOnItsHead() {
        Subject x = with("3: a new version with its old head as parent", 5);
        x.branch(0);
        x.branch(0);
        x.due(2).put(1, 6, true);
        x.due(1).base(0, 1);
        x.due(1).head(0);
        x.due(1).head(2);
        x.dueList(0, 5);
        x.duePatch(1, 2, 6);
    }

    private static void putOutOfRange() {
        Subject x = with("3: -2", 5);
        for (int triple : new int[] {-1, 4096, -4096, MIN, MAX}) {
            x.refused(-2).put(0, triple, true);
            x.refused(-2).put(0, triple, false);
        }
    }

    private static void putOnNoBranch() {
        Subject x = with("3: -1", 5);
        for (int branch : noneOf(1)) {
            x.refused(-1).put(branch, 6, true);
            x.refused(-1).put(branch, 5, false);
        }
    }

    private static void putChangesNothing() {
        Subject x = with("3: -3 when that changes nothing", 5, 0, 4095);
        x.refused(-3).put(0, 5, true);
        x.refused(-3).put(0, 0, true);
        x.refused(-3).put(0, 4095, true);
        x.refused(-3).put(0, 6, false);
        x.put(0, 5, false);
        x.refused(-3).put(0, 5, false);
        Subject empty = with("3: -3 when that changes nothing");
        empty.refused(-3).put(0, 0, false);
    }

    private static void putWithoutRoom() {
        Subject x = with("3: -4");
        x.fill(0, 100, 399);
        x.due(399).put(0, 4095, true);
        x.refused(-4).put(0, 4095, false);
        x.refused(-4).put(0, 0, true);
        x.due(400).versions();
    }

    private static void blankInAllTriples() {
        Subject x = with("4: Likewise with the other blank instead of blank b in all triples",
                triple(0, 9, 9), triple(9, 0, 9), triple(9, 9, 0), triple(0, 0, 0), triple(15, 15, 15),
                triple(5, 0, 6));
        x.branch(0);
        x.due(7).blank(0, 0, 7);
        x.due(7).head(0);
        x.dueList(0, triple(5, 7, 6), triple(7, 7, 7), triple(7, 9, 9), triple(9, 7, 9),
                triple(9, 9, 7), triple(15, 15, 15));
        x.due(6).base(0, 1);
        x.due(6).head(1);
        x.due(triple(0, 0, 0)).list(1, 0);
    }

    private static void blankInTheLeastTripleAlone() {
        Subject x = with("4: in all triples", triple(0, 0, 0));
        x.due(2).blank(0, 0, 7);
        x.dueList(0, triple(7, 7, 7));
        x.due(3).blank(0, 7, 0);
        x.dueList(0, triple(0, 0, 0));
        x.due(4).put(0, triple(1, 9, 9), true);
        x.refused(-3).blank(0, 1, 0);
    }

    private static void blankInTheGreatestTripleAlone() {
        Subject x = with("4: in all triples", triple(15, 15, 7));
        x.due(2).blank(0, 7, 6);
        x.dueList(0, triple(15, 15, 6));
        x.due(3).put(0, triple(15, 15, 7), true);
        x.refused(-3).blank(0, 6, 7);
        x.due(4).blank(0, 6, 0);
        x.dueList(0, triple(15, 15, 0), triple(15, 15, 7));
    }

    private static void blankOnNoBranch() {
        Subject x = with("4: -1", triple(1, 9, 9));
        for (int branch : noneOf(1)) {
            x.refused(-1).blank(branch, 1, 2);
        }
    }

    private static void noBlank() {
        Subject x = with("4: -2 when one of them is no blank", triple(1, 9, 9), triple(8, 9, 9));
        for (int point : new int[] {-1, 8, 15, 16, MIN, MAX}) {
            x.refused(-2).blank(0, point, 2);
            x.refused(-2).blank(0, 1, point);
        }
        Subject y = with("4: -2 when one of them is no blank", triple(8, 9, 9));
        y.refused(-2).blank(0, 8, 9);
        y.refused(-2).blank(0, 8, 8);
    }

    private static void blankTheSame() {
        Subject x = with("4: -3 when they are the same", triple(7, 9, 9));
        x.refused(-3).blank(0, 7, 7);
        x.refused(-3).blank(0, 0, 0);
    }

    private static void blankStandsInNone() {
        Subject x = with("4: b stands in no triple");
        x.refused(-3).blank(0, 0, 7);
        x.put(0, triple(7, 9, 9), true);
        x.refused(-3).blank(0, 0, 1);
        x.put(0, triple(0, 9, 9), true);
        x.due(3).blank(0, 0, 1);
        x.refused(-3).blank(0, 0, 2);
    }

    private static void otherStandsInOne() {
        String sentence = "4: or the other one stands in one";
        int[] of6 = {triple(6, 9, 9), triple(9, 6, 9), triple(9, 9, 6)};
        int[] of7 = {triple(7, 9, 9), triple(9, 7, 9), triple(9, 9, 7)};
        for (int b : of6) {
            for (int other : of7) {
                Subject x = with(sentence, b, other);
                x.refused(-3).blank(0, 6, 7);
                x.due(3).blank(0, 6, 5);
            }
        }
        Subject together = with(sentence, triple(6, 7, 9));
        together.refused(-3).blank(0, 6, 7);
        together.due(2).blank(0, 6, 5);
    }

    private static void blankWithoutRoom() {
        Subject x = with("4: -4", triple(0, 9, 9));
        x.branch(-1);
        x.fill(1, 4095, 399);
        x.due(399).blank(0, 0, 7);
        x.refused(-4).blank(0, 7, 0);
        x.dueList(0, triple(7, 9, 9));
    }

    private static void headOfNoBranch() {
        Subject x = with("5: The head of a branch; -1", 5);
        x.branch(-1);
        x.due(1).head(0);
        x.due(2).head(1);
        for (int branch : noneOf(2)) {
            x.refused(-1).head(branch);
        }
    }

    private static void greatestCommonAncestor() {
        Subject x = with("6: the greatest version that is an ancestor of both heads", 1);
        x.branch(0);
        x.put(0, 2, true);
        x.put(1, 3, true);
        x.due(1).base(0, 1);
        x.branch(0);
        x.due(0).merge(0, 1);
        // Heads 4 and 3, then 4 and 5: 2 and 3 are both common then.
        x.due(3).base(0, 1);
        x.due(0).merge(1, 2);
        x.due(5).head(1);
        x.due(3).base(0, 1);
        x.due(3).base(1, 0);
        x.due(2).base(2, 1);
        x.due(5).base(1, 1);
    }

    private static void noBase() {
        Subject x = with("6: -3 when there is none");
        x.branch(-1);
        x.refused(-3).base(0, 1);
        x.refused(-3).base(1, 0);
        x.due(0).base(0, 0);
        x.due(0).merge(0, 1);
        x.due(1).base(0, 1);
        x.branch(-1);
        x.refused(-3).base(0, 2);
    }

    private static void baseOfNoBranch() {
        Subject x = with("6: -1", 5);
        for (int branch : noneOf(1)) {
            x.refused(-1).base(branch, 0);
            x.refused(-1).base(0, branch);
        }
        x.refused(-1).base(1, 1);
    }

    private static void mergeOfAnAncestor() {
        Subject x = with("7: when it is an ancestor of the branch's head, nothing is done", 1);
        x.branch(0);
        x.branch(0);
        x.put(0, 2, true);
        x.put(2, 3, true);
        x.due(0).merge(0, 1);
        x.due(2).head(0);
        x.due(0).merge(0, 0);
        x.due(2).head(0);
        x.due(4).versions();
        // An ancestor by a second parent, whose merge would have conflicts, if it were one.
        x.due(0).merge(0, 2);
        x.put(0, triple(0, 12, 0), true);
        x.put(0, triple(0, 12, 1), true);
        x.due(0).report(0);
        x.due(0).merge(0, 2);
        x.due(6).head(0);
        x.due(0).merge(0, 0);
        x.due(7).versions();
    }

    private static void mergeOfADescendant() {
        Subject x = with("7: when that is an ancestor of it, it becomes the branch's head", 1);
        x.branch(0);
        x.put(0, triple(0, 12, 0), true);
        x.put(0, triple(0, 12, 1), true);
        x.due(0).merge(1, 0);
        x.due(3).head(1);
        x.due(3).head(0);
        x.due(4).versions();
        x.due(0).report(1);
        x.put(1, 9, true);
        x.due(3).head(0);
    }

    private static void mergedSet() {
        Subject x = with("7: if it is in the set of the head that has it otherwise than THE BASE's",
                1, 2, 3, 4095);
        x.branch(0);
        x.put(0, 1, false);
        x.put(0, 3, false);
        x.put(0, 0, true);
        x.put(1, 2, false);
        x.put(1, 3, false);
        x.put(1, 64, true);
        x.due(4).base(0, 1);
        x.due(0).merge(0, 1);
        x.dueList(0, 0, 64, 4095);
        x.dueList(1, 1, 64, 4095);
    }

    private static void mergedSetWithoutABase() {
        Subject x = with("7: (without a base: than none)", 1, 2);
        x.branch(-1);
        x.put(1, 2, true);
        x.put(1, 3, true);
        x.due(-3).base(0, 1);
        x.due(0).merge(0, 1);
        x.dueList(0, 1, 2, 3);
        // Two empty sets, and no base: a version all the same.
        Subject empty = with("7: (without a base: than none)");
        empty.branch(-1);
        empty.due(0).merge(1, 0);
        empty.due(2).head(1);
        empty.due(3).versions();
        empty.dueList(1);
        empty.due(-3).revert(1, 2);
    }

    private static void inBoth() {
        Subject x = with("7: or in both", 1, 4094);
        x.branch(0);
        x.put(0, 2, true);
        x.put(1, 2, true);
        x.due(0).merge(1, 0);
        x.dueList(1, 1, 2, 4094);
        x.due(6).versions();
        x.due(5).head(1);
        // Both heads have 2 as the base has; that it went and came again on branch 0 is nothing.
        x.put(0, 2, false);
        x.put(0, 2, true);
        x.due(3).base(0, 1);
        x.due(0).merge(0, 1);
        x.dueList(0, 1, 2, 4094);
    }

    private static void conflicts() {
        String sentence = "7: CONFLICTS are the single keys with two triples or more in that";
        int[] objects = {0, 7, 15};
        for (int p = 10; p < 16; p++) {
            Subject x = with(sentence);
            x.branch(0);
            x.put(0, triple(3, p, objects[0]), true);
            x.put(0, triple(3, p, objects[2]), true);
            x.put(1, triple(3, p, objects[1]), true);
            x.due(p < 12 ? 0 : 1).merge(0, 1);
        }
        // One triple each, of neighbouring keys, is none; the same one on both sides is none.
        Subject y = with(sentence);
        y.branch(0);
        y.put(0, triple(3, 12, 15), true);
        y.put(0, triple(3, 13, 1), true);
        y.put(1, triple(3, 13, 1), true);
        y.put(1, triple(3, 14, 0), true);
        y.due(0).merge(0, 1);
    }

    private static void conflictsOfOneSide() {
        // Two of a single key that both heads have, or one head alone, are conflicts, too.
        Subject x = with("7: CONFLICTS are the single keys with two triples or more in that",
                triple(1, 12, 1), triple(1, 12, 2));
        x.branch(0);
        x.put(0, triple(2, 15, 1), true);
        x.put(0, triple(2, 15, 2), true);
        x.put(1, 5, true);
        x.due(2).merge(1, 0);
        x.dueConflict(0, 28, triple(1, 12, 1), triple(1, 12, 2));
        x.dueConflict(1, 47, triple(2, 15, 1), triple(2, 15, 2));
        // What one head has taken away is none.
        x.put(1, triple(1, 12, 2), false);
        x.put(0, triple(2, 15, 1), false);
        x.due(0).merge(1, 0);
        x.dueList(1, 5, triple(1, 12, 1), triple(2, 15, 2));
    }

    private static void withConflictsNothingIsDone() {
        Subject x = with("7: Without any the branch's head becomes a new version with that set");
        x.branch(0);
        x.put(0, triple(0, 12, 0), true);
        x.put(1, triple(0, 12, 15), true);
        x.due(1).merge(0, 1);
        x.due(1).head(0);
        x.due(2).head(1);
        x.due(3).versions();
        x.put(1, triple(0, 12, 15), false);
        x.due(0).merge(0, 1);
        x.due(4).head(0);
        x.due(3).head(1);
        x.due(5).versions();
        x.dueList(0, triple(0, 12, 0));
    }

    private static void parentsOfAMerge() {
        Subject x = with("7: its old head and the other branch's as parents", 1);
        x.branch(0);
        x.put(0, 2, true);
        x.put(1, 3, true);
        x.branch(0);
        x.due(0).merge(0, 1);
        x.due(2).base(0, 2);
        x.due(3).base(0, 1);
        x.due(-3).revert(0, 4);
        // Its first parent is the old head: patch 4 adds 3, and not 2.
        x.branch(-1);
        x.due(1).apply(3, 4);
        x.dueList(3, 3);
    }

    private static void mergeOfNoBranch() {
        Subject x = with("7: -1", 5);
        for (int branch : noneOf(1)) {
            x.refused(-1).merge(branch, 0);
            x.refused(-1).merge(0, branch);
        }
        x.refused(-1).merge(1, 1);
    }

    private static void mergeWithoutRoom() {
        Subject x = with("7: -4", 1);
        x.branch(-1);
        x.put(1, 2, true);
        x.branch(-1);
        x.fill(2, 100, 399);
        x.due(0).merge(0, 1);
        x.due(399).head(0);
        x.refused(-4).merge(1, 2);
        // Where no version is made, no room is asked for.
        x.due(0).merge(0, 1);
        x.due(0).merge(1, 0);
        x.due(399).head(1);
    }

    private static void conflictsWithoutRoom() {
        Subject x = with("7: -4 (also if there are some)", triple(0, 12, 0));
        x.branch(-1);
        x.put(1, triple(0, 12, 1), true);
        x.branch(-1);
        x.fill(2, 100, 399);
        x.due(1).merge(0, 1);
        x.due(400 - 1).put(2, 5, true);
        x.refused(-4).merge(0, 1);
        x.refused(-4).merge(1, 0);
        x.due(1).head(0);
    }

    private static void toldOfTheLatestMerge() {
        String sentence = "7: What is told of conflicts is of the latest merge that was not refused";
        Subject x = with(sentence, triple(0, 12, 0));
        x.branch(-1);
        x.put(1, triple(0, 12, 1), true);
        x.due(1).merge(0, 1);
        x.refused(-1).merge(0, 2);
        x.put(1, triple(0, 12, 2), true);
        x.put(1, triple(0, 12, 1), false);
        x.due(-3).base(0, 1);
        x.refused(-3).put(1, 5, false);
        x.apply(0, 1);
        x.dueConflict(0, 12, triple(0, 12, 0), triple(0, 12, 1));
        x.due(1).merge(1, 0);
        x.dueConflict(0, 12, triple(0, 12, 0), triple(0, 12, 2));
        // One that does nothing, and one that only moves the head.
        x.due(0).merge(0, 0);
        x.due(-2).conflict(0, 0);
        x.due(1).merge(1, 0);
        x.due(12).conflict(0, 0);
        x.branch(0);
        x.put(0, 5, true);
        x.due(0).merge(2, 0);
        x.due(-2).conflict(0, 0);
        x.due(1).merge(1, 0);
        x.put(0, triple(0, 12, 0), false);
        x.due(0).merge(1, 0);
        x.due(-2).conflict(0, 0);
    }

    private static void refusedWithoutRoomTellsNothing() {
        Subject x = with("7: of the latest merge that was not refused", triple(0, 12, 0));
        x.branch(-1);
        x.put(1, triple(0, 12, 1), true);
        x.branch(-1);
        x.put(2, triple(5, 15, 1), true);
        x.put(2, triple(5, 15, 2), true);
        x.due(1).merge(0, 1);
        x.fill(0, 100, 400);
        x.refused(-4).merge(0, 2);
        x.dueConflict(0, 12, triple(0, 12, 0), triple(0, 12, 1));
        x.due(-2).conflict(1, 0);
    }

    private static void conflictsByTheirKeys() {
        Subject x = with("8: Conflict i (from 0, by their keys)");
        x.branch(0);
        for (int s = 15; s >= 0; s--) {
            for (int p = 15; p >= 12; p--) {
                x.put(0, triple(s, p, 9), true);
                x.put(1, triple(s, p, 8), true);
            }
        }
        x.due(64).merge(0, 1);
        for (int i = 0; i < 64; i++) {
            x.due(16 * (i / 4) + 12 + i % 4).conflict(i, 0);
        }
        x.due(-2).conflict(64, 0);
        x.due(-2).conflict(-1, 0);
    }

    private static void leastAndGreatest() {
        String sentence = "8: the least triple of it in the merged set (1), the greatest one (2)";
        Subject x = with(sentence);
        x.branch(0);
        for (int o = 0; o < 16; o++) {
            x.put(o % 2, triple(15, 15, o), true);
            x.put(o % 2, triple(0, 12, 15 - o), true);
        }
        x.put(0, triple(15, 14, 15), true);
        x.put(0, triple(0, 13, 0), true);
        x.due(2).merge(1, 0);
        x.dueConflict(0, 12, triple(0, 12, 0), triple(0, 12, 15));
        x.dueConflict(1, 255, triple(15, 15, 0), triple(15, 15, 15));
        Subject inner = with(sentence, triple(7, 13, 6), triple(7, 13, 9));
        inner.branch(-1);
        inner.put(1, triple(7, 13, 7), true);
        inner.due(1).merge(1, 0);
        inner.dueConflict(0, 125, triple(7, 13, 6), triple(7, 13, 9));
    }

    private static void inTheMergedSet() {
        // What either head had when they were merged, not what it has now.
        Subject x = with("8: in the merged set", triple(0, 12, 3), triple(0, 12, 5));
        x.branch(0);
        x.put(0, triple(0, 12, 3), false);
        x.put(0, triple(0, 12, 7), true);
        x.put(1, triple(0, 12, 9), true);
        x.due(1).merge(0, 1);
        x.dueConflict(0, 12, triple(0, 12, 5), triple(0, 12, 9));
        x.put(0, triple(0, 12, 0), true);
        x.put(1, triple(0, 12, 9), false);
        x.dueConflict(0, 12, triple(0, 12, 5), triple(0, 12, 9));
    }

    private static void noSuchConflict() {
        String sentence = "8: -2 when there is none such, or another what";
        Subject x = with(sentence, triple(0, 12, 0));
        for (int what = -1; what < 4; what++) {
            x.refused(-2).conflict(0, what);
            x.refused(-2).conflict(-1, what);
        }
        Subject y = with(sentence, triple(0, 12, 0));
        y.branch(-1);
        y.put(1, triple(0, 12, 1), true);
        y.due(1).merge(0, 1);
        for (int what = 0; what < 3; what++) {
            y.due(what == 0 ? 12 : 191 + what).conflict(0, what);
            for (int i : new int[] {1, -1, 2, 256, MIN, MAX}) {
                y.due(-2).conflict(i, what);
            }
        }
        for (int what : new int[] {-1, 3, 4, MIN, MAX}) {
            y.refused(-2).conflict(0, what);
            y.due(-2).conflict(1, what);
        }
    }

    private static void patchByTriples() {
        Subject x = with("9: Change i (from 0, by their triples)", 0, 4095, 64);
        x.branch(-1);
        x.put(1, 63, true);
        x.put(1, 64, true);
        x.put(1, 4094, true);
        x.duePatch(3, 7, -10, 63, 4094, -4105);
        x.duePatch(7, 3, 0, -73, -4104, 4095);
        x.duePatch(0, 3, 0, 64, 4095);
        x.duePatch(3, 4, -10, -74, -4105);
        x.duePatch(2, 1, -4105);
    }

    private static void comesAndGoes() {
        Subject x = with("9: a triple that comes as its number, one that goes as -10 less its number", 0);
        x.put(0, 4095, true);
        x.duePatch(0, 1, 0);
        x.duePatch(1, 0, -10);
        x.duePatch(1, 2, 4095);
        x.duePatch(2, 1, -4105);
    }

    private static void noSuchChange() {
        Subject x = with("9: -2 when there is none such", 5);
        x.branch(-1);
        x.refused(-2).patch(0, 0, 0);
        x.refused(-2).patch(1, 1, 0);
        x.refused(-2).patch(0, 2, 0);
        for (int i : new int[] {1, -1, 5, 4096, MIN, MAX}) {
            x.refused(-2).patch(0, 1, i);
            x.due(-2).patch(1, 0, i);
        }
        x.due(5).patch(0, 1, 0);
    }

    private static void patchOfNoVersion() {
        Subject x = with("9: -1", 5);
        for (int version : noneOf(2)) {
            x.refused(-1).patch(version, 0, 0);
            x.refused(-1).patch(1, version, 0);
            x.due(-1).patch(version, version, 0);
        }
    }

    private static void inverse() {
        Subject x = with("10: The patch that is a patch turned round; -1. (Of patch n it is -1 - n.)", 5);
        x.due(-1).inverse(0);
        x.due(0).inverse(-1);
        x.due(-2).inverse(1);
        x.due(1).inverse(-2);
        for (int patch : new int[] {2, -3, 400, -401, MAX, MIN, MAX - 1, MIN + 1}) {
            x.refused(-1).inverse(patch);
        }
    }

    private static void inverseOfTheLast() {
        Subject x = with("10: (Of patch n it is -1 - n.)");
        x.fill(0, 100, 400);
        x.due(-400).inverse(399);
        x.due(399).inverse(-400);
        x.due(-1).inverse(400);
        x.due(-1).inverse(-401);
    }

    private static void applyMakesAVersion() {
        Subject x = with("11: 1, with a new version whose parent that is", 5, 6);
        x.branch(0);
        x.branch(-1);
        x.due(1).apply(2, 2);
        x.due(4).head(2);
        x.due(5).versions();
        x.dueList(2, 6);
        x.due(1).apply(0, -2);
        x.due(2).base(0, 1);
        x.due(5).head(0);
        x.dueList(0, 6);
        x.dueList(1, 5, 6);
    }

    private static void applyCantBeLaid() {
        Subject x = with("11: 0 when it can't be laid", triple(7, 9, 9), triple(7, 9, 8));
        x.blank(0, 7, 0);
        x.branch(-1);
        x.refused(0).apply(1, -2);
        x.refused(0).apply(1, 3);
        x.put(1, triple(7, 9, 8), true);
        x.refused(0).apply(1, 3);
        x.refused(0).apply(0, -2);
        x.refused(0).apply(0, 3);
        x.put(1, triple(7, 9, 9), true);
        x.due(1).apply(1, 3);
    }

    private static void applyChangesNothing() {
        Subject x = with("11: or would change nothing", 5, 4095);
        x.refused(0).apply(0, 0);
        x.refused(0).apply(0, -1);
        x.refused(0).apply(0, 1);
        x.refused(0).apply(0, 2);
        x.branch(-1);
        x.refused(0).apply(1, 3);
        x.refused(0).apply(1, -4);
        x.due(1).apply(1, 2);
        x.refused(0).apply(1, 2);
    }

    private static void applyAMergeThatChangedNothing() {
        // A merge's change by its first parent may be nothing.
        Subject x = with("11: or would change nothing", 5);
        x.branch(-1);
        x.due(0).merge(0, 1);
        x.due(3).head(0);
        x.refused(0).apply(0, 3);
        x.refused(0).apply(1, -4);
    }

    private static void applyOfNone() {
        Subject x = with("11: -1", 5);
        for (int branch : noneOf(1)) {
            x.refused(-1).apply(branch, 1);
        }
        for (int patch : new int[] {2, -3, 400, -401, MIN, MAX}) {
            x.refused(-1).apply(0, patch);
        }
    }

    private static void applyWithoutRoom() {
        Subject x = with("11: -4 (when it can be laid)", triple(7, 9, 9));
        x.blank(0, 7, 0);
        x.branch(-1);
        x.fill(1, 100, 399);
        x.due(1).apply(1, 1);
        x.due(399).head(1);
        x.refused(-4).apply(1, 2);
        // When it can't be laid, room isn't asked for.
        x.refused(0).apply(0, 2);
        x.refused(0).apply(0, -2);
        x.due(-4).apply(0, -3);
        // The words ask only that it can be laid, not that it would change something.
        x.due(-4).apply(0, 0);
        x.due(-4).apply(1, 1);
    }

    private static void revertAnAncestor() {
        Subject x = with("12: The change of a version that is an ancestor of a branch's head is laid"
                + " to it turned round", 5, 6);
        x.put(0, 5, false);
        x.branch(0);
        x.due(1).revert(0, 3);
        x.due(4).head(0);
        x.due(3).base(0, 1);
        x.dueList(0, 5, 6);
        x.due(1).revert(0, 4);
        x.dueList(0, 6);
        x.due(1).revert(0, 2);
        x.dueList(0);
        x.due(7).versions();
    }

    private static void revertLikewise() {
        Subject x = with("12: 1 or 0 likewise", triple(7, 9, 9));
        x.blank(0, 7, 0);
        x.refused(0).revert(0, 0);
        x.refused(0).revert(0, 1);
        x.due(1).revert(0, 2);
        x.refused(0).revert(0, 2);
        x.dueList(0, triple(7, 9, 9));
        x.due(1).revert(0, 1);
        x.refused(0).revert(0, 1);
        x.dueList(0);
        // Taken away and put again by itself: it would change nothing.
        Subject y = with("12: 1 or 0 likewise", 5);
        y.put(0, 5, false);
        y.put(0, 5, true);
        y.refused(0).revert(0, 2);
        y.due(1).revert(0, 3);
    }

    private static void revertOfNone() {
        Subject x = with("12: -1", 5);
        for (int branch : noneOf(1)) {
            x.refused(-1).revert(branch, 1);
        }
        for (int version : noneOf(2)) {
            x.refused(-1).revert(0, version);
        }
    }

    private static void revertNoAncestor() {
        Subject x = with("12: -3 when it is no such ancestor", 5);
        x.branch(0);
        x.branch(-1);
        x.put(0, 6, true);
        x.refused(-3).revert(1, 3);
        x.refused(-3).revert(2, 0);
        x.refused(-3).revert(2, 1);
        x.refused(-3).revert(0, 2);
        x.due(1).revert(0, 3);
        x.due(1).revert(1, 1);
    }

    private static void revertTwoParents() {
        Subject x = with("12: or has two parents", 5);
        x.branch(-1);
        x.put(1, 6, true);
        x.due(0).merge(0, 1);
        x.refused(-3).revert(0, 4);
        x.refused(-3).revert(1, 4);
        x.put(0, 7, true);
        x.refused(-3).revert(0, 4);
        // A merge that only moved the head made no version with two.
        x.due(0).merge(1, 0);
        x.due(1).revert(1, 5);
        x.due(1).revert(1, 3);
        x.dueList(1, 5);
    }

    private static void revertWithoutRoom() {
        Subject x = with("12: -4", 5, 6);
        x.branch(-1);
        x.fill(1, 100, 399);
        x.due(1).revert(0, 1);
        x.due(399).head(0);
        x.refused(-4).revert(0, 2);
        x.refused(-4).revert(0, 399);
        x.refused(0).revert(0, 1);
    }

    private static void historyByNumbers() {
        Subject x = with("13: Version i (from 0, by their numbers)", 10);
        x.branch(0);
        x.put(1, 10, false);
        x.put(0, 10, false);
        x.put(1, 10, true);
        x.put(0, 11, true);
        x.dueHistory(10, 1, 2, 3, 4);
        x.dueHistory(11, 5);
        x.dueHistory(12);
    }

    private static void historyOfOneParentAtMost() {
        Subject x = with("13: of those with one parent at most", 10);
        x.branch(-1);
        x.put(1, 20, true);
        x.due(0).merge(0, 1);
        // By its first parent version 4 has 20, and by its second one 10.
        x.dueHistory(20, 3);
        x.dueHistory(10, 1);
        x.put(0, 20, false);
        x.dueHistory(20, 3, 5);
    }

    private static void historyOfAChange() {
        Subject x = with("13: whose change has a triple", triple(7, 9, 9), 4095);
        x.blank(0, 7, 0);
        x.dueHistory(triple(7, 9, 9), 1, 3);
        x.dueHistory(triple(0, 9, 9), 3);
        x.dueHistory(4095, 2);
        x.due(1).apply(0, -4);
        x.due(1).revert(0, 2);
        x.dueHistory(triple(7, 9, 9), 1, 3, 4);
        x.dueHistory(triple(0, 9, 9), 3, 4);
        x.dueHistory(4095, 2, 5);
    }

    private static void historyOfNone() {
        Subject x = with("13: -2 when there is no such triple or version", 0, 4095);
        for (int triple : new int[] {-1, 4096, MIN, MAX, -4096}) {
            x.refused(-2).history(triple, 0);
        }
        for (int i : new int[] {1, -1, 2, MIN, MAX, 400}) {
            x.refused(-2).history(0, i);
            x.due(-2).history(4095, i);
        }
        x.due(1).history(0, 0);
        x.due(2).history(4095, 0);
        x.due(-2).history(1, 0);
    }

    private static void longestHistory() {
        Subject x = with("13: -2 when there is no such triple or version");
        x.fill(0, 0, 400);
        x.due(1).history(0, 0);
        x.due(399).history(0, 398);
        x.due(-2).history(0, 399);
        x.due(-2).history(0, 400);
    }

    private static void report() {
        String sentence = "14: Whether each single key has one triple at most in a branch's head: 1 or 0";
        Subject empty = with(sentence);
        empty.due(1).report(0);
        for (int s = 0; s < 16; s += 5) {
            for (int p = 10; p < 16; p++) {
                Subject x = with(sentence, triple(s, p, 0));
                x.branch(0);
                x.due(1).report(0);
                x.put(0, triple(s, p, 15), true);
                x.due(p < 12 ? 1 : 0).report(0);
                x.due(1).report(1);
                x.put(0, triple(s, p, 0), false);
                x.due(1).report(0);
            }
        }
    }

    private static void reportOfNoBranch() {
        Subject x = with("14: -1", 5);
        for (int branch : noneOf(1)) {
            x.refused(-1).report(branch);
        }
    }

    private static void listByNumbers() {
        Subject x = with("15: Triple i (from 0) of a branch's head, by their numbers",
                4095, 4032, 4031, 128, 127, 64, 63, 1, 0);
        x.dueList(0, 0, 1, 63, 64, 127, 128, 4031, 4032, 4095);
    }

    private static void longestList() {
        Subject x = with("15: Triple i (from 0) of a branch's head, by their numbers");
        for (int k = 0; k < 399; k++) {
            x.due(k + 1).put(0, 4095 - 10 * k, true);
        }
        x.due(115).list(0, 0);
        x.due(125).list(0, 1);
        x.due(4085).list(0, 397);
        x.due(4095).list(0, 398);
        x.due(-2).list(0, 399);
    }

    private static void noSuchTriple() {
        Subject x = with("15: -2 when there is none such", 5);
        x.branch(-1);
        x.due(5).list(0, 0);
        x.refused(-2).list(1, 0);
        for (int i : new int[] {1, -1, 5, 4095, 4096, MIN, MAX}) {
            x.refused(-2).list(0, i);
            x.due(-2).list(1, i);
        }
    }

    private static void listOfNoBranch() {
        Subject x = with("15: -1", 5);
        for (int branch : noneOf(1)) {
            x.refused(-1).list(branch, 0);
            x.refused(-1).list(branch, -1);
        }
    }

    private static void versions() {
        Subject x = with("16: How many versions there are");
        x.due(1).versions();
        x.branch(0);
        x.due(1).versions();
        x.branch(-1);
        x.due(2).versions();
        x.put(0, 5, true);
        x.due(3).versions();
        x.fill(1, 100, 400);
        x.due(400).versions();
        x.refused(-4).put(0, 6, true);
        x.due(400).versions();
    }

    private static void branches() {
        Subject x = with("17: How many branches there are");
        x.due(1).branches();
        x.put(0, 5, true);
        x.refused(-1).branch(1);
        x.due(1).branches();
        for (int number = 1; number < 40; number++) {
            x.branch(number % 2 - 1);
            x.due(number + 1).branches();
        }
        x.due(-4).branch(0);
        x.due(40).branches();
    }

    private static void promises1To6() {
        oneBranch();
        withoutTriplesAndParents();
        branchOfAnother();
        branchOfANewVersion();
        branchRefused();
        branchWithoutRoomForABranch();
        branchWithoutRoomForAVersion();
        putThere();
        putAway();
        putOnItsHead();
        putOutOfRange();
        putOnNoBranch();
        putChangesNothing();
        putWithoutRoom();
        blankInAllTriples();
        blankInTheLeastTripleAlone();
        blankInTheGreatestTripleAlone();
        blankOnNoBranch();
        noBlank();
        blankTheSame();
        blankStandsInNone();
        otherStandsInOne();
        blankWithoutRoom();
        headOfNoBranch();
        greatestCommonAncestor();
        noBase();
        baseOfNoBranch();
    }

    private static void promises7And8() {
        mergeOfAnAncestor();
        mergeOfADescendant();
        mergedSet();
        mergedSetWithoutABase();
        inBoth();
        conflicts();
        conflictsOfOneSide();
        withConflictsNothingIsDone();
        parentsOfAMerge();
        mergeOfNoBranch();
        mergeWithoutRoom();
        conflictsWithoutRoom();
        toldOfTheLatestMerge();
        refusedWithoutRoomTellsNothing();
        conflictsByTheirKeys();
        leastAndGreatest();
        inTheMergedSet();
        noSuchConflict();
    }

    private static void promises9To12() {
        patchByTriples();
        comesAndGoes();
        noSuchChange();
        patchOfNoVersion();
        inverse();
        inverseOfTheLast();
        applyMakesAVersion();
        applyCantBeLaid();
        applyChangesNothing();
        applyAMergeThatChangedNothing();
        applyOfNone();
        applyWithoutRoom();
        revertAnAncestor();
        revertLikewise();
        revertOfNone();
        revertNoAncestor();
        revertTwoParents();
        revertWithoutRoom();
    }

    private static void promises13To17() {
        historyByNumbers();
        historyOfOneParentAtMost();
        historyOfAChange();
        historyOfNone();
        longestHistory();
        report();
        reportOfNoBranch();
        listByNumbers();
        longestList();
        noSuchTriple();
        listOfNoBranch();
        versions();
        branches();
    }

    public static void main(String[] args) {
        promises1To6();
        promises7And8();
        promises9To12();
        promises13To17();
        answers.end("PromiseEdgeTest");
    }
}
