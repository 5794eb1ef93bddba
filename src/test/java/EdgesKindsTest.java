import java.io.IOException;

/** The edges that the document names for promises 24 to 28. */
public final class EdgesKindsTest {
    private static final int BAD = -1, STATE = -2, NO = -1000000;
    private static final int MIN = Integer.MIN_VALUE, MAX = Integer.MAX_VALUE;
    private static final String KEY = "key ooooooooo;", PERSON = "person;";
    /** Two people; key 0 (row 1) held by person 0, key 1 (row 2) by person 1, key 2 (row 4) in the box. */
    private static final String HOUSE = "key xoooooooo;key oxooooooo;key ooxoooooo;person;person;holds 0 0;holds 1 1;";
    /** Person 3 holds all eight keys (notch 0 in all, key 7 all notches) and opens four of five locks alone. */
    private static final String RICH = "key xoooooooo;".repeat(7) + "key xxxxxxxxx;"
        + "lock xoooooooo;lock xxxxxxxxx;lock oxxxxxxxx;lock ooooooooo;lock oxooooooo;" + PERSON.repeat(4)
        + "holds3 0;holds3 1;holds3 2;holds3 3;holds3 4;holds3 5;holds3 6;holds3 7;";

    private EdgesKindsTest() {
    }

    public static void main(String[] args) throws IOException {
        Edge.begin();
        rateEdges();
        Edge.of(25, "An IMAGE is kept: how many KEYS there are, LOST ones too. BAD.", EdgesKindsTest::kept);
        Edge.of(25, "IMAGES 0, 1 keep NOW", EdgesKindsTest::noSuchToKeep);
        Edge.of(25, "An IMAGE is kept", EdgesKindsTest::keptAnew);
        Edge.of(26, "All of that becomes as an IMAGE has it: how many KEYS there are, LOST ones too.",
            EdgesKindsTest::back);
        Edge.of(26, "ROWS of KEYS, how many there are, who holds which, what may be UNDONE",
            EdgesKindsTest::whatIsKept);
        Edge.of(26, "what may be UNDONE); nothing else", EdgesKindsTest::nothingElse);
        Edge.of(26, "BAD; STATE: none was kept.", EdgesKindsTest::noneWasKept);
        Edge.of(26, "Refused, and nothing changes, the first of these", EdgesKindsTest::backIsBadFirst);
        Edge.of(26, "what may be UNDONE", EdgesKindsTest::tenAreKept);
        Edge.of(27, "0 KEYS (LOST ones too), 1 LOCKS, 2 PEOPLE, 3 KEYS in the BOX, 4 LOST ones, "
            + "5 how many may be UNDONE, 6 bytes of THE TEXT. BAD.", EdgesKindsTest::counted);
        Edge.of(27, "BAD", EdgesKindsTest::noSuchToCount);
        Edge.of(28, "THE TRACE, 0 at first", EdgesKindsTest::traceAtFirst);
        Edge.of(28, "THE TRACE goes on, as behind undo(), back().", EdgesKindsTest::traceGoesOn);
        Edge.end(24, 28);
    }

    private static void rateEdges() {
        Edge.of(24, "PERSON how many KEYS it holds (1)", EdgesKindsTest::person);
        Edge.of(24, "COOK up, and how many LOCKS it opens alone (10)", EdgesKindsTest::cook);
        Edge.of(24, "MAID up less CUT NOTCHES of all its KEYS LAID on each other (100)", EdgesKindsTest::maid);
        Edge.of(24, "STEWARD twice up (asked once) (1000)", EdgesKindsTest::steward);
        Edge.of(24, "GROOM up, and its number (10000)", EdgesKindsTest::groom);
        Edge.of(24, "THIEF up, and how many KEYS lie in the BOX (100000)", EdgesKindsTest::thief);
        Edge.of(24, "RATE. NO: BAD.", EdgesKindsTest::cannotBeRated);
        Edge.of(24, "A KEY is held by one of them, or lies in the BOX (at first), or is LOST",
            EdgesKindsTest::rateOfLost);
    }

    private static void is(String call, long got, long want) {
        Due.is(call, got, want);
    }

    /** A rate, and what it adds to the trace. */
    private static void rated(NotchKeys x, int kind, int p, int want, long added) {
        long before = x.trace();
        is("rate(" + kind + ", " + p + ")", x.rate(kind, p), want);
        is("trace of rate(" + kind + ", " + p + ")", x.trace() - before, added);
    }

    private static void person() {
        NotchKeys x = Due.told(RICH);
        rated(x, 0, 3, 8, 1);
        rated(x, 0, 0, 0, 1);
        x.give(7, 0);
        rated(x, 0, 3, 7, 1);
        rated(x, 0, 0, 1, 1);
    }

    private static void cook() {
        NotchKeys x = Due.told(RICH);
        rated(x, 1, 3, 12, 11);
        rated(x, 1, 0, 1, 11);
        x.give(7, -4);
        rated(x, 1, 3, 9, 11);
        x.give(7, 0);
        rated(x, 1, 0, 3, 11);
    }

    private static void maid() {
        NotchKeys x = Due.told(RICH);
        rated(x, 2, 3, 0, 101);
        x.give(7, 0);
        rated(x, 2, 3, 6, 101);
        rated(x, 2, 0, -8, 101);
        rated(x, 2, 1, 0, 101);
    }

    private static void steward() {
        NotchKeys x = Due.told(RICH);
        rated(x, 3, 3, 24, 1011);
        rated(x, 3, 0, 2, 1011);
        NotchKeys none = Due.told(PERSON);
        rated(none, 3, 0, 0, 1011);
    }

    private static void groom() {
        NotchKeys x = Due.told(RICH);
        rated(x, 4, 3, 3, 10101);
        rated(x, 4, 0, 0, 10101);
        rated(x, 4, 2, 2, 10101);
        x.give(7, 1);
        rated(x, 4, 1, -7, 10101);
    }

    private static void thief() {
        NotchKeys x = Due.told(RICH);
        rated(x, 5, 3, 8, 100001);
        rated(x, 5, 0, 0, 100001);
        x.give(0, -4);
        rated(x, 5, 3, 8, 100001);
        rated(x, 5, 0, 1, 100001);
        NotchKeys box = Due.told(PERSON + KEY.repeat(8));
        rated(box, 5, 0, 8, 100001);
    }

    private static void cannotBeRated() {
        NotchKeys x = Due.told(HOUSE);
        for (int kind : new int[] {-1, 6, MIN, MAX}) {
            rated(x, kind, 0, NO, 0);
        }
        for (int p : new int[] {-1, 2, 4, -4, MIN, MAX}) {
            for (int kind = 0; kind <= 5; kind++) {
                rated(x, kind, p, NO, 0);
            }
        }
        rated(x, 6, 2, NO, 0);
        rated(new NotchKeys(), 0, 0, NO, 0);
    }

    private static void rateOfLost() {
        NotchKeys x = Due.told(RICH);
        x.lose(7);
        x.lose(0);
        rated(x, 0, 3, 6, 1);
        rated(x, 1, 3, 8, 11);
        rated(x, 2, 3, 6, 101);
        rated(x, 5, 3, 6, 100001);
    }

    private static void kept() {
        NotchKeys x = new NotchKeys();
        is("no keys", x.keep(0), 0);
        x.cut(1);
        is("one", x.keep(1), 1);
        x.lose(0);
        is("one, lost", x.keep(1), 1);
        is("eight", Due.told(KEY.repeat(8)).keep(0), 8);
    }

    private static void noSuchToKeep() {
        NotchKeys x = Due.told(HOUSE);
        for (int image : new int[] {-1, 2, MIN, MAX}) {
            is("keep " + image, x.keep(image), BAD);
        }
        is("none was kept: 0", x.back(0), STATE);
        is("none was kept: 1", x.back(1), STATE);
    }

    private static void keptAnew() {
        NotchKeys x = Due.told(HOUSE);
        x.keep(0);
        x.forge(0, 8);
        x.keep(0);
        x.forge(0, 7);
        is("back", x.back(0), 3);
        is("the later one", x.key(0, 0), 257);
        is("image 1 was not kept", x.back(1), STATE);
        x.keep(1);
        x.forge(0, 6);
        x.keep(0);
        is("back to the other", x.back(1), 3);
        is("the other stays", x.key(0, 0), 257);
    }

    private static void back() {
        NotchKeys x = Due.told(HOUSE);
        x.lose(0);
        x.lose(1);
        x.keep(0);
        x.cut(8);
        is("lost ones too", x.back(0), 3);
        is("keys", x.count(0), 3);
        is("lost", x.count(4), 2);
        x.undo();
        x.forge(1, 1);
        is("once more", x.back(0), 3);
        is("row", x.key(1, 0), 2);
        is("lost again", x.key(1, 1), -3);
        NotchKeys y = new NotchKeys();
        y.keep(1);
        y.cut(3);
        is("to none", y.back(1), 0);
        is("none", y.key(0, 0), BAD);
        is("cut is 0 again", y.cut(4), 0);
    }

    private static void whatIsKept() {
        NotchKeys x = Due.told(HOUSE);
        x.forge(0, 8);
        x.give(1, 0);
        x.keep(1);
        x.forge(0, 0);
        x.give(1, -4);
        x.lose(2);
        x.cut(511);
        is("keys", x.back(1), 3);
        is("row", x.key(0, 0), 257);
        is("who holds", x.key(1, 1), 0);
        is("in the box", x.key(2, 1), -4);
        is("may be undone", x.count(5), 2);
        is("undone: given", x.undo(), 1);
        is("who holds then", x.key(1, 1), 1);
        is("undone: forged", x.undo(), 0);
        is("row then", x.key(0, 0), 1);
        is("undone: none", x.undo(), STATE);
    }

    private static void nothingElse() {
        NotchKeys x = Due.told(HOUSE + "lock xoooooooo;");
        Due.typeText(x, "abc");
        x.keep(0);
        x.keep(1);
        x.rate(0, 0);
        Due.typeText(x, "de");
        is("back", x.back(0), 3);
        is("text", x.count(6), 5);
        is("trace", x.trace(), 1);
        is("locks", x.count(1), 1);
        is("people", x.count(2), 2);
        is("the other image is there", x.back(1), 3);
        is("the same image is there", x.back(0), 3);
    }

    private static void noneWasKept() {
        NotchKeys x = Due.told(HOUSE);
        x.cut(5);
        is("0", x.back(0), STATE);
        is("1", x.back(1), STATE);
        is("nothing changed", x.count(0), 4);
        is("may be undone", x.count(5), 1);
        x.keep(1);
        is("0 still", x.back(0), STATE);
        is("1 now", x.back(1), 4);
    }

    private static void backIsBadFirst() {
        NotchKeys x = Due.told(HOUSE);
        for (int image : new int[] {-1, 2, MIN, MAX}) {
            is("none was kept, back " + image, x.back(image), BAD);
        }
        x.keep(0);
        x.keep(1);
        for (int image : new int[] {-1, 2, MIN, MAX}) {
            is("both were kept, back " + image, x.back(image), BAD);
        }
    }

    private static void tenAreKept() {
        NotchKeys x = Due.told(HOUSE);
        for (int i = 0; i < 12; i++) {
            x.forge(0, i % 9);
        }
        x.keep(0);
        for (int i = 0; i < 10; i++) {
            x.forge(1, i % 9);
        }
        is("back", x.back(0), 3);
        for (int i = 9; i >= 0; i--) {
            is("undo", x.undo(), i);
        }
        is("none", x.undo(), STATE);
        is("two stay forged", x.key(0, 0), 1 ^ 1 ^ 2);
        is("back again", x.back(0), 3);
        is("ten again", x.count(5), 10);
    }

    private static void counted() {
        NotchKeys x = Due.told(KEY.repeat(8) + "lock ooooooooo;".repeat(6) + PERSON.repeat(4) + "holds3 7;");
        x.lose(0);
        x.lose(7);
        Due.typeText(x, "?".repeat(300));
        for (int i = 0; i < 9; i++) {
            x.forge(1, i);
        }
        is("keys", x.count(0), 8);
        is("locks", x.count(1), 6);
        is("people", x.count(2), 4);
        is("in the box", x.count(3), 6);
        is("lost", x.count(4), 2);
        is("may be undone", x.count(5), 10);
        is("bytes", x.count(6), 300);
    }

    private static void noSuchToCount() {
        NotchKeys x = Due.told(HOUSE);
        for (int what : new int[] {-1, 7, MIN, MAX}) {
            is("what " + what, x.count(what), BAD);
        }
    }

    private static void traceAtFirst() {
        NotchKeys x = new NotchKeys();
        is("a new one", x.trace(), 0);
        x.house();
        is("behind house", x.trace(), 0);
        x.rate(0, 0);
        is("behind a refused rate", x.trace(), 0);
    }

    private static void traceGoesOn() {
        NotchKeys x = Due.told(HOUSE);
        x.cut(1);
        x.keep(0);
        x.rate(3, 0);
        x.undo();
        is("behind undo", x.trace(), 1011);
        x.back(0);
        is("behind back", x.trace(), 1011);
        Due.tell(x, PERSON);
        is("behind house", x.trace(), 1011);
        x.rate(4, 0);
        is("goes on", x.trace(), 11112);
        for (int i = 0; i < 400; i++) {
            x.rate(5, 0);
        }
        is("four hundred more", x.trace(), 40011512L);
    }
}
