import java.io.IOException;

/** The edges that the document names for promises 13 to 23. */
public final class EdgesOpensTest {
    private static final int BAD = -1, NONE = -9, NOT_SO_MANY = -5;
    private static final int MIN = Integer.MIN_VALUE, MAX = Integer.MAX_VALUE;
    private static final String ZERO_KEY = "key ooooooooo;", ZERO_LOCK = "lock ooooooooo;", PERSON = "person;";
    /** Key k is cut in notch k alone. */
    private static final String EIGHT = "key xoooooooo;key oxooooooo;key ooxoooooo;key oooxooooo;"
        + "key ooooxoooo;key oooooxooo;key ooooooxoo;key oooooooxo;";
    /** Four people, each holds the key of its own number; lock 15 needs them all. */
    private static final String FOUR = "key xoooooooo;key oxooooooo;key ooxoooooo;key oooxooooo;lock xxxxooooo;"
        + "person;person;person;person;holds 0 0;holds 1 1;holds 2 2;holds 3 3;";
    private static final String LOST_ARE_NONE = "KEYS that are LOST are no KEYS here.";

    private EdgesOpensTest() {
    }

    public static void main(String[] args) throws IOException {
        Edge.begin();
        aloneAndFewest();
        opensAndGroups();
        wishes();
        shutAndBrings();
        robAndApart();
        slipsAndOdds();
        Edge.end(13, 23);
    }

    private static void is(String call, long got, long want) {
        Due.is(call, got, want);
    }

    // ---- 13, 14

    private static void aloneAndFewest() {
        Edge.of(13, "gone through by numbers, that are not made (LAID on each other) by those ahead",
            EdgesOpensTest::aloneByNumbers);
        Edge.of(13, "a ROW without a CUT NOTCH is made by none", EdgesOpensTest::aloneNowhereCut);
        Edge.of(13, LOST_ARE_NONE, EdgesOpensTest::aloneLost);
        Edge.of(14, "the fewest KEYS that make it", EdgesOpensTest::fewestOfSeveral);
        Edge.of(14, "LIMIT at most, 0 .. 8", EdgesOpensTest::fewestLimit);
        Edge.of(14, "of several sets the least bits", EdgesOpensTest::fewestLeastBits);
        Edge.of(14, "FEWEST: how many (what = 0), the set (1); NONE. BAD.", EdgesOpensTest::fewestBad);
        Edge.of(14, LOST_ARE_NONE, EdgesOpensTest::fewestLost);
    }

    private static void aloneByNumbers() {
        is("no keys", new NotchKeys().alone(), 0);
        is("eight", Due.told(EIGHT).alone(), 255);
        is("same rows", Due.told("key xxxxxxxxx;".repeat(8)).alone(), 1);
        is("the last by two ahead", Due.told("key xoooooooo;key oxooooooo;key xxooooooo;").alone(), 3);
        is("the first is not by those behind", Due.told("key xxooooooo;key xoooooooo;key oxooooooo;").alone(), 3);
        is("by three ahead", Due.told("key xxooooooo;key oxxoooooo;key ooxxooooo;key xooxooooo;").alone(), 7);
        is("made by all seven ahead", Due.told(EIGHT.substring(0, 98) + "key xxxxxxxoo;").alone(), 127);
    }

    private static void aloneNowhereCut() {
        is("eight nowhere cut", Due.told(ZERO_KEY.repeat(8)).alone(), 0);
        is("the first nowhere cut", Due.told(ZERO_KEY + "key xoooooooo;").alone(), 2);
    }

    private static void aloneLost() {
        NotchKeys x = Due.told("key xoooooooo;key xoooooooo;key xoooooooo;");
        x.lose(0);
        is("the next one is alone", x.alone(), 2);
        x.lose(1);
        is("the last one is alone", x.alone(), 4);
        x.lose(2);
        is("all are lost", x.alone(), 0);
    }

    private static void fewestOfSeveral() {
        NotchKeys x = Due.told("key xoooooooo;key oxooooooo;key ooxoooooo;key xxxoooooo;");
        is("one, not three", x.fewest(7, 8, 0), 1);
        is("which", x.fewest(7, 8, 1), 8);
        is("two, though three are nearer to the least bits", x.fewest(3, 8, 1), 3);
        is("none for a row nowhere cut", x.fewest(0, 8, 0), 0);
        is("no set for it", x.fewest(0, 8, 1), 0);
        is("a row that none make", x.fewest(8, 8, 0), NONE);
        is("its set", x.fewest(8, 8, 1), NONE);
        is("none for 0 with a key nowhere cut", Due.told(ZERO_KEY).fewest(0, 8, 1), 0);
    }

    private static void fewestLimit() {
        NotchKeys x = Due.told(EIGHT);
        is("all eight", x.fewest(255, 8, 0), 8);
        is("their set", x.fewest(255, 8, 1), 255);
        is("seven at most", x.fewest(255, 7, 0), NONE);
        is("seven at most, set", x.fewest(255, 7, 1), NONE);
        is("one at most", x.fewest(128, 1, 1), 128);
        is("none at most", x.fewest(128, 0, 1), NONE);
        is("none at most, 0", x.fewest(0, 0, 0), 0);
        for (int limit : new int[] {-1, 9, MIN, MAX}) {
            is("limit " + limit, x.fewest(0, limit, 0), BAD);
        }
    }

    private static void fewestLeastBits() {
        NotchKeys x = Due.told("key xoooooooo;key oxooooooo;key xoxoooooo;key oxxoooooo;");
        is("keys 1 and 2, not 0 and 3", x.fewest(7, 8, 1), 6);
        is("how many", x.fewest(7, 8, 0), 2);
        is("same rows", Due.told("key xxxxxxxxx;".repeat(8)).fewest(511, 8, 1), 1);
    }

    private static void fewestBad() {
        NotchKeys x = Due.told(EIGHT);
        for (int row : new int[] {-1, 512, MIN, MAX}) {
            is("row " + row, x.fewest(row, 8, 0), BAD);
        }
        for (int what : new int[] {-1, 2, MIN, MAX}) {
            is("what " + what, x.fewest(1, 8, what), BAD);
        }
        is("row 511 is none", x.fewest(511, 8, 0), NONE);
    }

    private static void fewestLost() {
        NotchKeys x = Due.told("key xxooooooo;key xoooooooo;key oxooooooo;");
        x.lose(0);
        is("by the two others", x.fewest(3, 8, 1), 6);
        x.lose(1);
        is("none", x.fewest(3, 8, 1), NONE);
        is("none for 0", x.fewest(0, 8, 0), 0);
    }

    // ---- 15, 16

    private static void opensAndGroups() {
        Edge.of(15, "OPENS of a group (PEOPLE as bits): LOCKS (bits) that KEYS they hold can open",
            EdgesOpensTest::opensByHeldKeys);
        Edge.of(15, "that opens each LOCK of just this ROW", EdgesOpensTest::opensEachOfTheRow);
        Edge.of(15, "OPENS. BAD.", EdgesOpensTest::opensBad);
        Edge.of(15, LOST_ARE_NONE, EdgesOpensTest::opensLost);
        Edge.of(16, "those that open it, of which no smaller part does", EdgesOpensTest::groupsLeast);
        Edge.of(16, "how many (i = -1), the i-th (-5: not so many)", EdgesOpensTest::groupsNotSoMany);
        Edge.of(16, "how many; the i-th by bits", EdgesOpensTest::groupsByBits);
        Edge.of(16, "LEAST GROUPS: how many (i = -1), the i-th (-5: not so many). BAD.", EdgesOpensTest::groupsBad);
        Edge.of(16, LOST_ARE_NONE, EdgesOpensTest::groupsLost);
    }

    private static void opensByHeldKeys() {
        NotchKeys x = Due.told(FOUR);
        is("all four", x.opens(15), 1);
        for (int group = 0; group < 15; group++) {
            is("group " + group, x.opens(group), 0);
        }
        x.give(3, -4);
        is("not with the box", x.opens(15), 0);
        x.give(3, 0);
        is("three have them all", x.opens(7), 1);
        NotchKeys some = Due.told(PERSON + "key xoooooooo;key oxooooooo;lock oxooooooo;holds 0 0;holds 0 1;");
        is("not all keys need be laid", some.opens(1), 1);
    }

    private static void opensEachOfTheRow() {
        NotchKeys x = Due.told(PERSON + "key xoooooooo;" + "lock xoooooooo;".repeat(6) + "holds 0 0;");
        is("six of one row", x.opens(1), 63);
        is("nobody", x.opens(0), 0);
        x.forge(0, 8);
        is("one notch more is not just this row", x.opens(1), 0);
        NotchKeys y = Due.told(ZERO_LOCK + "lock xoooooooo;" + ZERO_LOCK);
        is("no keys make a row nowhere cut", y.opens(0), 5);
    }

    private static void opensBad() {
        NotchKeys x = Due.told(FOUR);
        for (int group : new int[] {16, 31, -1, MIN, MAX}) {
            is("group " + group, x.opens(group), BAD);
        }
        NotchKeys two = Due.told(PERSON + PERSON);
        is("both of two, no locks", two.opens(3), 0);
        is("a third of two", two.opens(4), BAD);
        is("a third with the first", two.opens(5), BAD);
    }

    private static void opensLost() {
        NotchKeys x = Due.told(FOUR);
        x.lose(2);
        is("one key is lost", x.opens(15), 0);
        x.undo();
        is("found", x.opens(15), 1);
    }

    private static void groupsLeast() {
        NotchKeys x = Due.told(FOUR);
        is("all of them, one group", x.groups(0, -1), 1);
        is("all of them", x.groups(0, 0), 15);
        NotchKeys same = Due.told(ZERO_LOCK + "lock xoooooooo;" + "key xoooooooo;".repeat(4) + PERSON.repeat(4)
            + "holds 0 0;holds 1 1;holds 2 2;holds 3 3;");
        is("each alone", same.groups(1, -1), 4);
        is("the last alone", same.groups(1, 3), 8);
        is("nobody is the only least group", same.groups(0, -1), 1);
        is("nobody", same.groups(0, 0), 0);
        NotchKeys nobody = Due.told(ZERO_LOCK + "lock xoooooooo;key xoooooooo;");
        is("a house of nobody, nowhere cut", nobody.groups(0, -1), 1);
        is("a house of nobody, one notch", nobody.groups(1, -1), 0);
    }

    private static void groupsNotSoMany() {
        NotchKeys x = Due.told(FOUR);
        is("behind the last", x.groups(0, 1), NOT_SO_MANY);
        is("far behind", x.groups(0, MAX), NOT_SO_MANY);
        NotchKeys none = Due.told(PERSON + "lock xoooooooo;");
        is("none", none.groups(0, -1), 0);
        is("none, the first", none.groups(0, 0), NOT_SO_MANY);
    }

    private static void groupsByBits() {
        // Each two of the four have rows that make 16.
        NotchKeys x = Due.told("key xoooooooo;key xoooxoooo;key xoooooooo;key xoooxoooo;lock ooooxoooo;"
            + "person;person;person;person;holds 0 0;holds 1 1;holds 2 2;holds 3 3;");
        is("how many", x.groups(0, -1), 4);
        is("first", x.groups(0, 0), 3);
        is("second", x.groups(0, 1), 6);
        is("third", x.groups(0, 2), 9);
        is("fourth", x.groups(0, 3), 12);
        is("fifth", x.groups(0, 4), NOT_SO_MANY);
    }

    private static void groupsBad() {
        NotchKeys x = Due.told(PERSON + ZERO_LOCK.repeat(6));
        is("the last lock", x.groups(5, 0), 0);
        for (int l : new int[] {-1, 6, MIN, MAX}) {
            is("lock " + l, x.groups(l, -1), BAD);
        }
        for (int i : new int[] {-2, -5, MIN}) {
            is("i " + i, x.groups(0, i), BAD);
        }
        is("lock 6, behind the last", x.groups(6, 9), BAD);
    }

    private static void groupsLost() {
        NotchKeys x = Due.told(FOUR);
        x.lose(0);
        is("none any more", x.groups(0, -1), 0);
        x.undo();
        is("one again", x.groups(0, -1), 1);
    }

    // ---- 17

    private static void wishes() {
        Edge.of(17, "the least ROW of a KEY more that it holds, by which that group opens the LOCK",
            EdgesOpensTest::wishLeastRow);
        Edge.of(17, "no smaller part of it does", EdgesOpensTest::wishSmallerPart);
        Edge.of(17, "no group that has not all of them", EdgesOpensTest::wishOtherGroups);
        Edge.of(17, "WISH; NONE.", EdgesOpensTest::wishNone);
        Edge.of(17, "BAD (it is not of the group, too).", EdgesOpensTest::wishBad);
        Edge.of(17, "lies in the BOX", EdgesOpensTest::wishNotByTheBox);
        Edge.of(17, LOST_ARE_NONE, EdgesOpensTest::wishLost);
    }

    private static void wishLeastRow() {
        is("one alone", Due.told(PERSON + "lock xxxxxxxxx;").wish(0, 1, 0), 511);
        NotchKeys x = Due.told(PERSON + "key oooooooox;lock xooooooox;holds 0 0;");
        is("with its own key", x.wish(0, 1, 0), 1);
        NotchKeys full = Due.told(PERSON + ZERO_KEY.repeat(8) + "lock oooooooox;");
        is("eight keys are there", full.wish(0, 1, 0), 256);
        is("just this group opens it already", Due.told(FOUR).wish(2, 15, 0), 0);
    }

    private static void wishSmallerPart() {
        // Row 3 would open for person 0 alone; row 1 needs person 1, too.
        NotchKeys x = Due.told(PERSON + PERSON + "key oxooooooo;lock xxooooooo;holds 1 0;");
        is("both", x.wish(0, 3, 0), 1);
        is("0 alone", x.wish(0, 1, 0), 3);
        is("the other one has all but nothing of 0", x.wish(1, 3, 0), NONE);
        NotchKeys y = Due.told(PERSON + PERSON + "key xoooooooo;lock xoooooooo;holds 1 0;");
        is("a part opens it already", y.wish(0, 3, 0), NONE);
        is("a part opens it already, by itself", y.wish(1, 3, 0), NONE);
        NotchKeys nobody = Due.told(PERSON + ZERO_LOCK);
        is("nobody opens it already", nobody.wish(0, 1, 0), NONE);
    }

    private static void wishOtherGroups() {
        String three = PERSON.repeat(3) + "key oxooooooo;key oxooooooo;lock xxooooooo;holds 1 0;holds 2 1;";
        NotchKeys x = Due.told(three);
        is("2 is as good as 1", x.wish(0, 3, 0), NONE);
        x.forge(1, 2);
        is("2 is not as good as 1", x.wish(0, 3, 0), 1);
        is("0 with 2", x.wish(0, 5, 0), 5);
        x.forge(1, 1);
        x.forge(1, 0);
        // Key 1 is row 5 now: rows 2 and 5 of persons 1 and 2 make 7.
        is("all three", x.wish(0, 7, 0), 4);
        NotchKeys y = Due.told(PERSON + PERSON + "key xoooooooo;lock xoooooooo;holds 1 0;");
        is("another one opens it already", y.wish(0, 1, 0), NONE);
        is("who opens it already is the group", y.wish(1, 2, 0), 0);
    }

    private static void wishNone() {
        NotchKeys x = Due.told(PERSON + PERSON + "lock xoooooooo;");
        is("one of the group has nothing", x.wish(0, 3, 0), NONE);
        is("so for the other one", x.wish(1, 3, 0), NONE);
        NotchKeys full = Due.told(FOUR);
        is("all four, but nobody else, open it already", full.wish(0, 1, 0), 14);
        full.give(0, 1);
        is("three without this one open it already", full.wish(0, 1, 0), NONE);
    }

    private static void wishBad() {
        NotchKeys x = Due.told(FOUR);
        is("not of the group", x.wish(0, 14, 0), BAD);
        is("group of nobody", x.wish(0, 0, 0), BAD);
        for (int p : new int[] {-1, 4, 31, 32, MIN, MAX}) {
            is("person " + p, x.wish(p, 15, 0), BAD);
        }
        for (int group : new int[] {16, 17, -1, MIN, MAX, MIN + 1}) {
            is("group " + group, x.wish(0, group, 0), BAD);
        }
        for (int l : new int[] {-1, 1, 6, MIN, MAX}) {
            is("lock " + l, x.wish(0, 15, l), BAD);
        }
        is("the last one, all of them", x.wish(3, 15, 0), 0);
    }

    private static void wishNotByTheBox() {
        NotchKeys x = Due.told(PERSON + "key xoooooooo;lock xoooooooo;");
        is("the box is not held", x.wish(0, 1, 0), 1);
    }

    private static void wishLost() {
        NotchKeys x = Due.told(FOUR);
        x.lose(3);
        is("by the one who lost it", x.wish(3, 15, 0), 8);
        is("by another", x.wish(0, 15, 0), NONE);
        is("with the first", x.wish(3, 9, 0), 14);
        is("with nobody", x.wish(3, 8, 0), 15);
    }

    // ---- 18, 19

    private static void shutAndBrings() {
        Edge.of(18, "all KEYS (held or in the BOX) can open, but not without this one", EdgesOpensTest::shuts);
        Edge.of(18, "SHUT. BAD (LOST, too).", EdgesOpensTest::shutBad);
        Edge.of(18, LOST_ARE_NONE, EdgesOpensTest::shutLost);
        Edge.of(19, "the least ROW that, as a KEY more in the BOX", EdgesOpensTest::bringsLeast);
        Edge.of(19, "were there 8 already, too", EdgesOpensTest::bringsNinth);
        Edge.of(19, "makes most LOCKS open by all KEYS; how many then", EdgesOpensTest::bringsMost);
        Edge.of(19, "BACK: the ROW (what = 0), how many LOCKS (1). BAD.", EdgesOpensTest::bringsBad);
        Edge.of(19, LOST_ARE_NONE, EdgesOpensTest::bringsLost);
    }

    private static void shuts() {
        NotchKeys x = Due.told(PERSON + "key xoooooooo;key oxooooooo;lock xoooooooo;lock xxooooooo;lock oxooooooo;"
            + ZERO_LOCK + "lock ooxoooooo;holds 0 0;");
        is("one held", x.shut(0), 3);
        is("one in the box", x.shut(1), 6);
        x.cut(1);
        is("another one has its row", x.shut(0), 0);
        is("the new one is no better", x.shut(2), 0);
        x.cut(0);
        is("one nowhere cut", x.shut(3), 0);
        is("no locks", Due.told(ZERO_KEY).shut(0), 0);
        NotchKeys six = Due.told("lock xoooooooo;".repeat(6) + ZERO_KEY.repeat(7) + "key xoooooooo;");
        is("six locks by the last key", six.shut(7), 63);
    }

    private static void shutBad() {
        NotchKeys x = Due.told(ZERO_KEY);
        for (int k : new int[] {-1, 1, 8, 31, 32, MIN, MAX}) {
            is("key " + k, x.shut(k), BAD);
        }
        x.lose(0);
        is("lost", x.shut(0), BAD);
    }

    private static void shutLost() {
        NotchKeys x = Due.told("key xoooooooo;key xoooooooo;lock xoooooooo;");
        is("two of the row", x.shut(1), 0);
        x.lose(0);
        is("one of them is lost", x.shut(1), 1);
    }

    private static void bringsLeast() {
        is("nothing is to be brought", new NotchKeys().brings(0), 0);
        is("the largest row", Due.told("lock xxxxxxxxx;").brings(0), 511);
        NotchKeys two = Due.told("lock oxooooooo;lock xoooooooo;");
        is("the least of two", two.brings(0), 1);
        is("one of two", two.brings(1), 1);
        NotchKeys open = Due.told("lock xoooooooo;key xoooooooo;");
        is("all is open already", open.brings(0), 0);
        is("how many are open already", open.brings(1), 1);
    }

    private static void bringsNinth() {
        NotchKeys x = Due.told(ZERO_KEY.repeat(8) + "lock oooooooox;");
        is("row", x.brings(0), 256);
        is("how many", x.brings(1), 1);
        is("none was cut", x.count(0), 8);
    }

    private static void bringsMost() {
        NotchKeys x = Due.told("key xxooooooo;lock xoooooooo;lock oxooooooo;lock ooxoooooo;" + ZERO_LOCK
            + "lock xxooooooo;lock oooxooooo;");
        is("locks 1 and 2 by one row", x.brings(0), 1);
        is("with those that are open", x.brings(1), 4);
        NotchKeys six = Due.told("lock oxooooooo;".repeat(6));
        is("six of one row", six.brings(1), 6);
        is("their row", six.brings(0), 2);
    }

    private static void bringsBad() {
        NotchKeys x = Due.told(ZERO_LOCK);
        for (int what : new int[] {-1, 2, MIN, MAX}) {
            is("what " + what, x.brings(what), BAD);
        }
        is("one open, nowhere cut", x.brings(1), 1);
    }

    private static void bringsLost() {
        NotchKeys x = Due.told("key ooxoooooo;lock ooxoooooo;");
        is("open", x.brings(0), 0);
        x.lose(0);
        is("brought back", x.brings(0), 4);
        is("one", x.brings(1), 1);
    }

    // ---- 20, 21

    private static void robAndApart() {
        Edge.of(20, "the fewest PEOPLE whose KEYS, with those in the BOX, open all of these", EdgesOpensTest::robs);
        Edge.of(20, "of several the least bits", EdgesOpensTest::robLeastBits);
        Edge.of(20, "ROB; NONE. BAD.", EdgesOpensTest::robBad);
        Edge.of(20, LOST_ARE_NONE, EdgesOpensTest::robLost);
        Edge.of(21, "the fewest CUT NOTCHES of any ROW with some that KEYS can make", EdgesOpensTest::apartFewest);
        Edge.of(21, "NONE: they make none", EdgesOpensTest::apartNone);
        Edge.of(21, LOST_ARE_NONE, EdgesOpensTest::apartLost);
    }

    private static void robs() {
        NotchKeys x = Due.told(FOUR);
        is("all four", x.rob(1), 15);
        is("no locks", x.rob(0), 0);
        x.give(0, -4);
        x.give(2, -4);
        is("with those in the box", x.rob(1), 10);
        x.give(1, -4);
        x.give(3, -4);
        is("all is in the box", x.rob(1), 0);
        NotchKeys six = Due.told(PERSON + "key xoooooooo;key oxooooooo;lock xoooooooo;lock oxooooooo;"
            + "lock xxooooooo;" + ZERO_LOCK + "lock xoooooooo;lock xoooooooo;holds 0 0;holds 0 1;");
        is("six locks, by keys in different ways", six.rob(63), 1);
        is("what is nowhere cut", six.rob(8), 0);
    }

    private static void robLeastBits() {
        NotchKeys x = Due.told("key xoooooooo;key oxooooooo;key xxooooooo;key xxooooooo;lock xxooooooo;"
            + "person;person;person;person;holds 0 0;holds 1 1;holds 2 2;holds 3 3;");
        is("one, not the first two", x.rob(1), 4);
        x.lose(2);
        is("the other one", x.rob(1), 8);
        x.lose(3);
        is("the first two", x.rob(1), 3);
    }

    private static void robBad() {
        NotchKeys x = Due.told(FOUR);
        for (int locks : new int[] {2, 3, 64, -1, MIN, MAX}) {
            is("locks " + locks, x.rob(locks), BAD);
        }
        x.forge(0, 0);
        is("none", x.rob(1), NONE);
        is("no locks still", x.rob(0), 0);
        NotchKeys nobody = Due.told("key xoooooooo;lock xoooooooo;lock oxooooooo;");
        is("nobody, by the box", nobody.rob(1), 0);
        is("nobody", nobody.rob(2), NONE);
        is("one of both is not all", nobody.rob(3), NONE);
        is("64 of six", Due.told(ZERO_LOCK.repeat(6)).rob(64), BAD);
        is("63 of six", Due.told(ZERO_LOCK.repeat(6)).rob(63), 0);
    }

    private static void robLost() {
        NotchKeys x = Due.told(PERSON + "key xoooooooo;key xoooooooo;lock xoooooooo;holds 0 0;");
        is("the box", x.rob(1), 0);
        x.lose(1);
        is("lost of the box", x.rob(1), 1);
        x.lose(0);
        is("lost by one", x.rob(1), NONE);
    }

    private static void apartFewest() {
        is("one key", Due.told("key xxxxxxxxx;").apart(), 9);
        is("two keys, laid", Due.told("key xxxxxxxxx;key xxxxxxxxo;").apart(), 1);
        is("same rows make none more", Due.told("key xxxxxxxxx;key xxxxxxxxx;").apart(), 9);
        is("three, all of them laid", Due.told("key xxxooxxoo;key oxxxxooxo;key xooxxxxxx;").apart(), 1);
        is("eight", Due.told(EIGHT).apart(), 1);
    }

    private static void apartNone() {
        is("no keys", new NotchKeys().apart(), NONE);
        is("eight nowhere cut", Due.told(ZERO_KEY.repeat(8)).apart(), NONE);
        is("nowhere cut, and one notch", Due.told(ZERO_KEY + "key oooooooox;").apart(), 1);
    }

    private static void apartLost() {
        NotchKeys x = Due.told("key xoooooooo;key xxxxxxxxx;");
        x.lose(0);
        is("without the lost one", x.apart(), 9);
        x.lose(1);
        is("all are lost", x.apart(), NONE);
    }

    // ---- 22, 23

    private static void slipsAndOdds() {
        Edge.of(22, "of which, changed, all KEYS of the set LAID on each other would open it",
            EdgesOpensTest::slipsOneNotchOff);
        Edge.of(22, "the i-th (KEY by KEY, NOTCH by NOTCH): 10 times the KEY and the NOTCH",
            EdgesOpensTest::slipsOrder);
        Edge.of(22, "SLIPS: how many (i = -1), the i-th (-5: not so many)", EdgesOpensTest::slipsNotSoMany);
        Edge.of(22, "BAD (a KEY that is LOST, too).", EdgesOpensTest::slipsBad);
        Edge.of(23, "that k unlike KEYS, taken blindly of all, make it", EdgesOpensTest::oddsTaken);
        Edge.of(23, "0 by 1: there are not so many", EdgesOpensTest::oddsNotSoMany);
        Edge.of(23, "in least terms", EdgesOpensTest::oddsLeastTerms);
        Edge.of(23, "k (0 .. 8)", EdgesOpensTest::oddsBad);
        Edge.of(23, LOST_ARE_NONE, EdgesOpensTest::oddsLost);
    }

    private static void slipsOneNotchOff() {
        NotchKeys x = Due.told("key xoooooooo;key oxooooooo;lock xxooooooo;lock xoxoooooo;lock xoooooooo;");
        is("opens already", x.slips(3, 0, -1), 0);
        is("opens already, the first", x.slips(3, 0, 0), NOT_SO_MANY);
        is("two notches off", x.slips(3, 1, -1), 0);
        is("one notch off", x.slips(3, 2, -1), 2);
        is("one notch off, of one", x.slips(1, 0, -1), 1);
        is("no keys, one notch off", x.slips(0, 2, -1), 0);
        is("no keys, the first", x.slips(0, 2, 0), NOT_SO_MANY);
    }

    private static void slipsOrder() {
        NotchKeys x = Due.told(ZERO_KEY.repeat(8) + "lock oooooooox;lock xoooooooo;");
        is("eight", x.slips(255, 0, -1), 8);
        for (int k = 0; k < 8; k++) {
            is("key " + k + ", notch 8", x.slips(255, 0, k), 10 * k + 8);
            is("key " + k + ", notch 0", x.slips(255, 1, k), 10 * k);
        }
        is("the last key alone", x.slips(128, 0, 0), 78);
        is("of keys 1 and 6, the second", x.slips(66, 1, 1), 60);
    }

    private static void slipsNotSoMany() {
        NotchKeys x = Due.told(ZERO_KEY.repeat(8) + "lock oooooooox;");
        is("the ninth of eight", x.slips(255, 0, 8), NOT_SO_MANY);
        is("far behind", x.slips(255, 0, MAX), NOT_SO_MANY);
        is("the second of one", x.slips(1, 0, 1), NOT_SO_MANY);
    }

    private static void slipsBad() {
        NotchKeys x = Due.told(ZERO_KEY + ZERO_KEY + ZERO_LOCK);
        for (int keys : new int[] {4, 5, 256, -1, MIN, MAX}) {
            is("keys " + keys, x.slips(keys, 0, -1), BAD);
        }
        for (int l : new int[] {-1, 1, 6, MIN, MAX}) {
            is("lock " + l, x.slips(3, l, -1), BAD);
        }
        for (int i : new int[] {-2, -5, MIN}) {
            is("i " + i, x.slips(3, 0, i), BAD);
        }
        x.lose(1);
        is("a lost one", x.slips(2, 0, -1), BAD);
        is("a lost one with another", x.slips(3, 0, 7), BAD);
        is("the other one", x.slips(1, 0, -1), 0);
    }

    private static void odds(NotchKeys x, int k, int row, int upper, int lower) {
        is("odds of " + k + " for " + row + ", upper", x.odds(k, row, 0), upper);
        is("odds of " + k + " for " + row + ", lower", x.odds(k, row, 1), lower);
    }

    private static void oddsTaken() {
        NotchKeys x = Due.told(EIGHT);
        odds(x, 0, 0, 1, 1);
        odds(x, 0, 1, 0, 1);
        odds(x, 1, 128, 1, 8);
        odds(x, 4, 15, 1, 70);
        odds(x, 4, 7, 0, 1);
        odds(x, 8, 255, 1, 1);
        odds(x, 8, 511, 0, 1);
        odds(Due.told("key xoooooooo;key xoooooooo;"), 2, 0, 1, 1);
    }

    private static void oddsNotSoMany() {
        odds(new NotchKeys(), 1, 0, 0, 1);
        odds(new NotchKeys(), 8, 511, 0, 1);
        NotchKeys seven = Due.told(ZERO_KEY.repeat(7));
        odds(seven, 7, 0, 1, 1);
        odds(seven, 8, 0, 0, 1);
    }

    private static void oddsLeastTerms() {
        NotchKeys x = Due.told(ZERO_KEY.repeat(4) + "key xoooooooo;".repeat(4));
        odds(x, 1, 1, 1, 2);
        odds(x, 2, 1, 4, 7);
        odds(x, 2, 0, 3, 7);
        odds(x, 2, 2, 0, 1);
        odds(x, 4, 0, 19, 35);
    }

    private static void oddsBad() {
        NotchKeys x = Due.told(EIGHT);
        for (int k : new int[] {-1, 9, MIN, MAX}) {
            is("k " + k, x.odds(k, 0, 0), BAD);
        }
        for (int row : new int[] {-1, 512, MIN, MAX}) {
            is("row " + row, x.odds(0, row, 0), BAD);
        }
        for (int what : new int[] {-1, 2, MIN, MAX}) {
            is("what " + what, x.odds(0, 0, what), BAD);
        }
        is("BAD ahead of not so many", new NotchKeys().odds(8, 0, 2), BAD);
    }

    private static void oddsLost() {
        NotchKeys x = Due.told(EIGHT);
        x.lose(0);
        odds(x, 1, 1, 0, 1);
        odds(x, 1, 2, 1, 7);
        odds(x, 7, 254, 1, 1);
        odds(x, 8, 255, 0, 1);
    }
}
