import java.io.IOException;

/** The edges that the document names for promises 8 to 12. */
public final class EdgesKeysTest {
    private static final int BAD = -1, STATE = -2, FULL = -3;
    private static final int MIN = Integer.MIN_VALUE, MAX = Integer.MAX_VALUE;
    private static final String KEY = "key ooooooooo;";
    /** Two people; key 0 (row 1) held by person 0, key 1 (row 2) by person 1, key 2 (row 4) in the box. */
    private static final String HOUSE = "key xoooooooo;key oxooooooo;key ooxoooooo;person;person;holds 0 0;holds 1 1;";

    private EdgesKeysTest() {
    }

    public static void main(String[] args) throws IOException {
        Edge.begin();
        Edge.of(8, "CUT NEW: its number. BAD (0 .. 511); FULL.", EdgesKeysTest::rowsThatAreCut);
        Edge.of(8, "CUT NEW (into the BOX", EdgesKeysTest::cutIntoTheBox);
        Edge.of(8, "at most 8 that are told or CUT", EdgesKeysTest::ninthKey);
        Edge.of(8, "Refused, and nothing changes, the first of these", EdgesKeysTest::cutIsBadFirst);
        Edge.of(9, "GIVEN to one of the PEOPLE (-4: into the BOX): who had it (-4).", EdgesKeysTest::whoHadIt);
        Edge.of(9, "PEOPLE 0 .. (4 at most)", EdgesKeysTest::allPeople);
        Edge.of(9, "there is no such thing", EdgesKeysTest::noSuchToGive);
        Edge.of(9, "STATE: it is LOST, or is there.", EdgesKeysTest::cannotBeGiven);
        Edge.of(9, "Refused, and nothing changes, the first of these", EdgesKeysTest::giveIsBadFirst);
        Edge.of(10, "LOST: who had it (-4). BAD; STATE: it is LOST.", EdgesKeysTest::lost);
        Edge.of(10, "there is no such thing", EdgesKeysTest::noSuchToLose);
        Edge.of(11, "FORGED: one NOTCH is changed", EdgesKeysTest::notches);
        Edge.of(11, "FORGED: its ROW then. BAD; STATE: it is LOST.", EdgesKeysTest::cannotBeForged);
        Edge.of(11, "Refused, and nothing changes, the first of these", EdgesKeysTest::forgeIsBadFirst);
        undoEdges();
        Edge.end(8, 12);
    }

    private static void undoEdges() {
        Edge.of(12, "UNDONE: how many more may be. STATE: none.", EdgesKeysTest::undone);
        Edge.of(12, "the latest of these four that was not undone yet", EdgesKeysTest::eachOfTheFour);
        Edge.of(12, "that was not undone yet", EdgesKeysTest::undoneAndChangedAgain);
        Edge.of(12, "10 are known", EdgesKeysTest::tenAreKnown);
        Edge.of(12, "older ones are lost", EdgesKeysTest::olderOnes);
        Edge.of(12, "older ones are lost", EdgesKeysTest::manyOlderOnes);
        Edge.of(12, "Refused, and nothing changes", EdgesKeysTest::refusedAreNotUndone);
    }

    private static void is(String call, long got, long want) {
        Due.is(call, got, want);
    }

    private static NotchKeys home() {
        return Due.told(HOUSE);
    }

    private static void rowsThatAreCut() {
        NotchKeys x = new NotchKeys();
        for (int row : new int[] {-1, 512, MIN, MAX}) {
            is("cut of " + row, x.cut(row), BAD);
        }
        is("none was cut", x.count(0), 0);
        is("none may be undone", x.count(5), 0);
        is("cut of 0", x.cut(0), 0);
        is("cut of 511", x.cut(511), 1);
        is("row of 0", x.key(0, 0), 0);
        is("row of 511", x.key(1, 0), 511);
    }

    private static void cutIntoTheBox() {
        NotchKeys x = home();
        is("its number is behind the told ones", x.cut(9), 3);
        is("who holds it", x.key(3, 1), -4);
        is("in the box", x.count(3), 2);
        is("may be undone", x.count(5), 1);
    }

    private static void ninthKey() {
        NotchKeys told = Due.told(KEY.repeat(8));
        is("eight were told", told.cut(1), FULL);
        is("none may be undone", told.count(5), 0);
        NotchKeys x = Due.told(KEY.repeat(7));
        is("the eighth", x.cut(1), 7);
        is("the ninth", x.cut(1), FULL);
        x.lose(0);
        x.lose(7);
        is("lost ones are of the eight", x.cut(1), FULL);
        is("keys", x.count(0), 8);
        for (int i = 2; i >= 0; i--) {
            is("undo", x.undo(), i);
        }
        is("room again", x.cut(2), 7);
        is("its row", x.key(7, 0), 2);
        NotchKeys y = new NotchKeys();
        for (int k = 0; k < 8; k++) {
            is("cut", y.cut(k), k);
        }
        is("eight were cut", y.cut(8), FULL);
    }

    private static void cutIsBadFirst() {
        NotchKeys x = Due.told(KEY.repeat(8));
        is("512 as the ninth", x.cut(512), BAD);
        is("-1 as the ninth", x.cut(-1), BAD);
        is("511 as the ninth", x.cut(511), FULL);
    }

    private static void whoHadIt() {
        NotchKeys x = home();
        is("of the box", x.give(2, 1), -4);
        is("of person 1", x.give(2, 0), 1);
        is("of person 0 into the box", x.give(2, -4), 0);
        is("of the box again", x.give(2, 0), -4);
        is("who has it", x.key(2, 1), 0);
        is("its row stays", x.key(2, 0), 4);
        is("others stay", x.key(1, 1), 1);
    }

    private static void allPeople() {
        NotchKeys x = Due.told(KEY + "person;person;person;person;");
        for (int p = 0; p < 4; p++) {
            is("to " + p, x.give(0, p), p == 0 ? -4 : p - 1);
        }
        is("to 4", x.give(0, 4), BAD);
        NotchKeys nobody = Due.told(KEY);
        is("to 0 of nobody", nobody.give(0, 0), BAD);
    }

    private static void noSuchToGive() {
        NotchKeys x = home();
        for (int k : new int[] {-1, 3, 8, MIN, MAX}) {
            is("key " + k, x.give(k, 0), BAD);
            is("key " + k + " into the box", x.give(k, -4), BAD);
        }
        for (int p : new int[] {-1, -2, -3, -5, 2, 4, MIN, MAX}) {
            is("to " + p, x.give(0, p), BAD);
        }
        is("none may be undone", x.count(5), 0);
    }

    private static void cannotBeGiven() {
        NotchKeys x = home();
        is("is there: a person", x.give(0, 0), STATE);
        is("is there: the box", x.give(2, -4), STATE);
        is("none may be undone", x.count(5), 0);
        x.lose(0);
        is("lost, to who had it", x.give(0, 0), STATE);
        is("lost, to another", x.give(0, 1), STATE);
        is("lost, into the box", x.give(0, -4), STATE);
        is("lost still", x.key(0, 1), -3);
    }

    private static void giveIsBadFirst() {
        NotchKeys x = home();
        x.lose(0);
        is("lost, to -3 (where it is)", x.give(0, -3), BAD);
        is("lost, to 2", x.give(0, 2), BAD);
        is("lost, to one", x.give(0, 1), STATE);
    }

    private static void lost() {
        NotchKeys x = home();
        is("of person 0", x.lose(0), 0);
        is("of person 1", x.lose(1), 1);
        is("of the box", x.lose(2), -4);
        for (int k = 0; k < 3; k++) {
            is("lost " + k, x.lose(k), STATE);
        }
        is("lost ones", x.count(4), 3);
        is("keys", x.count(0), 3);
        is("may be undone", x.count(5), 3);
    }

    private static void noSuchToLose() {
        NotchKeys x = home();
        for (int k : new int[] {-1, 3, 8, MIN, MAX}) {
            is("key " + k, x.lose(k), BAD);
        }
        is("none may be undone", x.count(5), 0);
    }

    private static void notches() {
        NotchKeys x = Due.told(KEY);
        int due = 0;
        for (int notch = 0; notch < 9; notch++) {
            due += 1 << notch;
            is("on " + notch, x.forge(0, notch), due);
        }
        for (int notch = 0; notch < 9; notch++) {
            due -= 1 << notch;
            is("off " + notch, x.forge(0, notch), due);
        }
        is("row", x.key(0, 0), 0);
        is("in the box still", x.key(0, 1), -4);
    }

    private static void cannotBeForged() {
        NotchKeys x = home();
        for (int notch : new int[] {-1, 9, 32, MIN, MAX}) {
            is("notch " + notch, x.forge(0, notch), BAD);
        }
        for (int k : new int[] {-1, 3, 8, MIN, MAX}) {
            is("key " + k, x.forge(k, 0), BAD);
        }
        is("none may be undone", x.count(5), 0);
        x.lose(0);
        is("lost", x.forge(0, 0), STATE);
        is("row of the lost one", x.key(0, 0), 1);
    }

    private static void forgeIsBadFirst() {
        NotchKeys x = home();
        x.lose(0);
        is("lost, notch 9", x.forge(0, 9), BAD);
        is("lost, notch -1", x.forge(0, -1), BAD);
        is("lost, notch 8", x.forge(0, 8), STATE);
    }

    private static void undone() {
        NotchKeys x = home();
        is("none yet", x.undo(), STATE);
        x.cut(1);
        is("the only one", x.undo(), 0);
        is("none more", x.undo(), STATE);
        is("keys", x.count(0), 3);
    }

    private static void eachOfTheFour() {
        NotchKeys x = home();
        x.cut(5);
        x.give(3, 1);
        x.forge(3, 1);
        x.lose(3);
        is("lost", x.undo(), 3);
        is("held again", x.key(3, 1), 1);
        is("as it was forged", x.key(3, 0), 7);
        is("forged", x.undo(), 2);
        is("as it was cut", x.key(3, 0), 5);
        is("held still", x.key(3, 1), 1);
        is("given", x.undo(), 1);
        is("in the box", x.key(3, 1), -4);
        is("cut", x.undo(), 0);
        is("no such key", x.key(3, 0), BAD);
    }

    private static void undoneAndChangedAgain() {
        NotchKeys x = home();
        x.forge(0, 8);
        x.forge(0, 7);
        is("the second", x.undo(), 1);
        x.forge(0, 6);
        is("known", x.count(5), 2);
        is("the third", x.undo(), 1);
        is("row", x.key(0, 0), 257);
        is("the first", x.undo(), 0);
        is("row as told", x.key(0, 0), 1);
        is("what was undone isn't known", x.undo(), STATE);
    }

    private static void tenAreKnown() {
        NotchKeys x = home();
        for (int i = 1; i <= 10; i++) {
            x.forge(0, i % 2 == 0 ? 8 : 7);
            is("known", x.count(5), i);
        }
        for (int i = 9; i >= 0; i--) {
            is("undo", x.undo(), i);
        }
        is("row as told", x.key(0, 0), 1);
        is("none", x.undo(), STATE);
    }

    private static void olderOnes() {
        NotchKeys x = home();
        x.lose(2);
        for (int i = 0; i < 10; i++) {
            x.forge(0, i % 9);
        }
        is("known", x.count(5), 10);
        for (int i = 9; i >= 0; i--) {
            is("undo", x.undo(), i);
        }
        is("none", x.undo(), STATE);
        is("row as told", x.key(0, 0), 1);
        is("the eleventh from the end stays", x.key(2, 1), -3);
        x.forge(0, 1);
        is("room is there again", x.undo(), 0);
    }

    private static void manyOlderOnes() {
        NotchKeys x = home();
        for (int i = 0; i < 35; i++) {
            is("given on", x.give(0, 1 - i % 2), i % 2);
        }
        for (int i = 0; i < 4; i++) {
            x.undo();
        }
        is("known", x.count(5), 6);
        for (int i = 0; i < 5; i++) {
            x.give(1, i % 2 == 0 ? 0 : 1);
        }
        is("known to the end", x.count(5), 10);
        for (int i = 9; i >= 0; i--) {
            is("undo", x.undo(), i);
        }
        is("none", x.undo(), STATE);
        is("who held key 1 as told", x.key(1, 1), 1);
        is("who held key 0 behind 26 changes", x.key(0, 1), 0);
    }

    private static void refusedAreNotUndone() {
        NotchKeys x = home();
        x.lose(0);
        x.cut(512);
        x.give(0, 1);
        x.lose(0);
        x.forge(0, 1);
        x.give(1, 1);
        is("known", x.count(5), 1);
        is("undo", x.undo(), 0);
        is("found", x.key(0, 1), 0);
    }
}
