import java.io.IOException;

/** The edges that the document names for promises 1 to 7. */
public final class EdgesHouseTest {
    private static final int BAD = -1, STATE = -2, FULL = -3, NONE = -9, NO = -1000000;
    private static final int MIN = Integer.MIN_VALUE, MAX = Integer.MAX_VALUE;
    private static final String KEY = "key ooooooooo;", LOCK = "lock ooooooooo;", PERSON = "person;";

    private EdgesHouseTest() {
    }

    public static void main(String[] args) throws IOException {
        Edge.begin();
        Edge.of(1, "As told; no KEYS, no LOCKS, nobody.", EdgesHouseTest::nothingAtFirst);
        Edge.of(1, "no KEYS, no LOCKS, nobody", EdgesHouseTest::askedAtFirst);
        Edge.of(2, "The lowest n (1 .. 8) bytes of v", EdgesHouseTest::bytesAreTheLowest);
        Edge.of(2, "bytes of v, the highest of them first", EdgesHouseTest::bytesHighestFirst);
        Edge.of(2, "n (1 .. 8)", EdgesHouseTest::bytesTooFewTooMany);
        Edge.of(2, "300 bytes at most", EdgesHouseTest::textIsFull);
        Edge.of(2, "Refused, and nothing changes, the first of these", EdgesHouseTest::typeIsBadFirst);
        Edge.of(3, "THE TEXT is empty: how many bytes it had.", EdgesHouseTest::cleared);
        houseEdges();
        faultEdges();
        Edge.of(5, "Of a KEY: 0 its ROW, 1 who holds it (-3 LOST; -4 in the BOX). BAD.", EdgesHouseTest::keys);
        Edge.of(5, "a number is not as told, or there is no such thing", EdgesHouseTest::noSuchKey);
        Edge.of(6, "The ROW of a LOCK. BAD.", EdgesHouseTest::locks);
        Edge.of(7, "CUT where an odd number of them is (none: nowhere)", EdgesHouseTest::laidOddAndEven);
        Edge.of(7, "BAD (one LOST, too).", EdgesHouseTest::laidOfNoKeys);
        Edge.end(1, 7);
    }

    private static void houseEdges() {
        Edge.of(4, "blanks (32), any number, ahead of, between, behind TOKENS", EdgesHouseTest::blanks);
        Edge.of(4, "needed only between two rows of letters, two NUMBERS", EdgesHouseTest::blanksNeeded);
        Edge.of(4, "ITEMS (none, too), each ended by ;", EdgesHouseTest::noItems);
        Edge.of(4, "nine letters, x CUT, o not, NOTCH 0 first", EdgesHouseTest::rows);
        Edge.of(4, "holds P K (one of the PEOPLE, a KEY in the BOX)", EdgesHouseTest::holds);
        Edge.of(4, "KEYS 0 .. (8 at most) and LOCKS 0 .. (6 at most) have ROWS", EdgesHouseTest::asManyAsCanBe);
        Edge.of(4, "THE TEXT tells all anew, and is empty then: how many ITEMS.", EdgesHouseTest::emptyThen);
        Edge.of(4, "-10 less FAULT: nothing changes (THE TEXT stays, too).", EdgesHouseTest::faultChangesNothing);
        Edge.of(4, "what is not told as at first", EdgesHouseTest::readAnew);
        Edge.of(4, "nothing can be UNDONE, IMAGES are gone; THE TRACE goes on", EdgesHouseTest::goneAnew);
    }

    private static void faultEdges() {
        Edge.of(4, "the first TOKEN that can't stand there", EdgesHouseTest::tokenOutOfPlace);
        Edge.of(4, "a ninth key", EdgesHouseTest::ninthKey);
        Edge.of(4, "a seventh lock", EdgesHouseTest::seventhLock);
        Edge.of(4, "a fifth person", EdgesHouseTest::fifthPerson);
        Edge.of(4, "a P or K that was not told", EdgesHouseTest::notTold);
        Edge.of(4, "a K that is held already, too", EdgesHouseTest::heldAlready);
        Edge.of(4, "of a byte that begins none", EdgesHouseTest::byteBeginsNone);
        Edge.of(4, "a word that is none of these", EdgesHouseTest::wordIsNone);
        Edge.of(4, "a NUMBER above 99", EdgesHouseTest::numberAbove99);
        Edge.of(4, "or with a 0 ahead of others", EdgesHouseTest::zeroAhead);
        Edge.of(4, "the text's length, if it ends too early", EdgesHouseTest::endsTooEarly);
    }

    private static void is(String call, long got, long want) {
        Due.is(call, got, want);
    }

    /** The text's fault: house() tells its place, and the text stays. */
    private static void fault(String text, int place) {
        NotchKeys x = new NotchKeys();
        is("house of '" + text + "'", Due.tell(x, text), -10 - place);
        is("bytes of '" + text + "'", x.count(6), text.length());
    }

    private static void holdsGood(String text, int items) {
        NotchKeys x = new NotchKeys();
        is("house of '" + text + "'", Due.tell(x, text), items);
        is("bytes behind '" + text + "'", x.count(6), 0);
    }

    private static void nothingAtFirst() {
        NotchKeys x = new NotchKeys();
        for (int what = 0; what <= 6; what++) {
            is("count " + what, x.count(what), 0);
        }
        is("trace", x.trace(), 0);
        is("undo", x.undo(), STATE);
        is("back 0", x.back(0), STATE);
        is("back 1", x.back(1), STATE);
        is("clear", x.clear(), 0);
        is("keep of nothing", x.keep(0), 0);
        is("back to nothing", x.back(0), 0);
        is("key 0", x.key(0, 0), BAD);
        is("lock 0", x.lock(0), BAD);
        is("give", x.give(0, -4), BAD);
        is("lose", x.lose(0), BAD);
        is("forge", x.forge(0, 0), BAD);
        is("rate", x.rate(0, 0), NO);
        is("cut is 0", x.cut(1), 0);
    }

    private static void askedAtFirst() {
        NotchKeys x = new NotchKeys();
        is("laid of none", x.laid(0), 0);
        is("laid of one", x.laid(1), BAD);
        is("alone", x.alone(), 0);
        is("fewest for 0", x.fewest(0, 0, 0), 0);
        is("fewest for 0, set", x.fewest(0, 0, 1), 0);
        is("fewest for 1", x.fewest(1, 8, 0), NONE);
        is("opens of nobody", x.opens(0), 0);
        is("opens of one", x.opens(1), BAD);
        is("groups", x.groups(0, -1), BAD);
        is("wish", x.wish(0, 1, 0), BAD);
        is("shut", x.shut(0), BAD);
        is("brings, row", x.brings(0), 0);
        is("brings, locks", x.brings(1), 0);
        is("rob of no locks", x.rob(0), 0);
        is("rob of one", x.rob(1), BAD);
        is("apart", x.apart(), NONE);
        is("slips", x.slips(0, 0, -1), BAD);
        is("odds of none for 0, upper", x.odds(0, 0, 0), 1);
        is("odds of none for 0, lower", x.odds(0, 0, 1), 1);
        is("odds of none for 511, upper", x.odds(0, 511, 0), 0);
        is("odds of one, lower", x.odds(1, 0, 1), 1);
    }

    private static void bytesAreTheLowest() {
        NotchKeys x = new NotchKeys();
        is("five of eight", x.type(0x7878786c6f636b20L, 5), 5);
        is("seven of eight", x.type(0xff786f6f6f6f6f6fL, 7), 12);
        is("three of eight", x.type(0xffffffffff6f6f3bL, 3), 15);
        is("house", x.house(), 1);
        is("its row", x.lock(0), 1);
        is("one of two", x.type(0x6b20L, 1), 1);
        is("house of a blank", x.house(), 0);
        is("a long below 0", x.type(Long.MIN_VALUE, 8), 8);
        is("its first byte is 128", x.house(), -10);
        x.clear();
        is("its last byte is 0", x.type(Long.MIN_VALUE | 32, 1), 1);
        is("house of its last byte", x.house(), 0);
    }

    private static void bytesHighestFirst() {
        NotchKeys x = new NotchKeys();
        x.type(0x706572736f6e203bL, 8);
        is("person, blank, ;", x.house(), 1);
        x.type(0x3b20706572736f6eL, 8);
        is("; first", x.house(), -10);
    }

    private static void bytesTooFewTooMany() {
        NotchKeys x = new NotchKeys();
        for (int n : new int[] {0, -1, -8, MIN, 9, 16, MAX}) {
            is("type of " + n, x.type(0x3b3b3b3bL, n), BAD);
            is("text behind " + n, x.count(6), 0);
        }
        is("type of 1", x.type(0, 1), 1);
        is("type of 8", x.type(0, 8), 9);
    }

    private static void textIsFull() {
        NotchKeys x = new NotchKeys();
        for (int i = 1; i <= 37; i++) {
            is("eight more", x.type(0x2020202020202020L, 8), 8 * i);
        }
        for (int n = 5; n <= 8; n++) {
            is("to " + (296 + n), x.type(0, n), FULL);
            is("nothing of it came", x.count(6), 296);
        }
        is("to 300", x.type(0x20202020L, 4), 300);
        for (int n = 1; n <= 8; n++) {
            is("behind 300", x.type(0, n), FULL);
        }
        is("300 bytes", x.count(6), 300);
        is("300 blanks are read", x.house(), 0);
        is("room again", x.type(0, 8), 8);
    }

    private static void typeIsBadFirst() {
        NotchKeys x = new NotchKeys();
        Due.typeText(x, " ".repeat(300));
        is("0 bytes into a full text", x.type(0, 0), BAD);
        is("9 bytes into a full text", x.type(0, 9), BAD);
        is("1 byte into a full text", x.type(0, 1), FULL);
    }

    private static void cleared() {
        NotchKeys x = new NotchKeys();
        is("an empty text", x.clear(), 0);
        Due.typeText(x, "?");
        is("one byte", x.clear(), 1);
        Due.typeText(x, "?".repeat(300));
        is("a full text", x.clear(), 300);
        is("again", x.clear(), 0);
        is("bytes", x.count(6), 0);
        Due.typeText(x, KEY);
        is("none of the old bytes", x.house(), 1);
    }

    private static void blanks() {
        holdsGood(" ", 0);
        holdsGood(" ".repeat(300), 0);
        holdsGood("   person   ;   ", 1);
        holdsGood(" ".repeat(293) + PERSON, 1);
        holdsGood(PERSON + " ".repeat(293), 1);
        holdsGood("person" + " ".repeat(293) + ";", 1);
        holdsGood(PERSON + KEY + "holds    0    0    ;", 3);
        holdsGood("key" + " ".repeat(287) + "xxxxxxxxx;", 1);
        fault("person\n;", 6);
        fault("\tperson;", 0);
    }

    private static void blanksNeeded() {
        holdsGood(PERSON + PERSON + KEY + "holds1 0;", 4);
        holdsGood(PERSON + KEY + "holds0 0;person;", 4);
        holdsGood("key ooooooooo;lock ooooooooo;person;", 3);
        fault("keyooooooooo;", 0);
        fault("lockooooooooo;", 0);
        fault("personperson;", 0);
        fault(PERSON + KEY + "holds 00;", 27);
        fault("person;person;" + KEY + KEY + "holds 11;", 48);
        fault("ke y ooooooooo;", 0);
        fault("key oooo ooooo;", 4);
        fault(PERSON + KEY + "holds 0 0 0;", 31);
    }

    private static void noItems() {
        holdsGood("", 0);
        fault(";", 0);
        fault(" ;", 1);
        fault("person;;", 7);
        fault("person", 6);
        fault(KEY + ";", 14);
        holdsGood(PERSON, 1);
        holdsGood(PERSON + PERSON, 2);
    }

    private static void rows() {
        NotchKeys x = Due.told("key xoooooooo;key oooooooox;key xxxxxxxxx;key ooooooooo;lock ooooxoooo;");
        is("notch 0", x.key(0, 0), 1);
        is("notch 8", x.key(1, 0), 256);
        is("all", x.key(2, 0), 511);
        is("none", x.key(3, 0), 0);
        is("notch 4", x.lock(0), 16);
        fault("key oooooooo;", 4);
        fault("key oooooooooo;", 4);
        fault("key ooooooooX;", 4);
        fault("key ooooooooO;", 4);
        fault("key oooooooo0;", 4);
        fault("key zoooooooo;", 4);
        fault("key oooooooow;", 4);
        fault("key ;", 4);
        fault("lock x;", 5);
    }

    private static void holds() {
        NotchKeys x = Due.told(PERSON + PERSON + PERSON + PERSON + KEY.repeat(8) + "holds3 7;holds3 0;holds 0 1;");
        is("the last one, the last key", x.key(7, 1), 3);
        is("two keys of one", x.key(0, 1), 3);
        is("the first one", x.key(1, 1), 0);
        is("in the box at first", x.key(2, 1), -4);
        fault(PERSON + KEY + "holds 0;", 28);
        fault(PERSON + KEY + "holds;", 26);
        fault(PERSON + KEY + "holds person key;", 27);
        fault(PERSON + KEY + "holds 0 key;", 29);
        fault(PERSON + KEY + "holds ooooooooo 0;", 27);
    }

    private static void asManyAsCanBe() {
        NotchKeys x = new NotchKeys();
        is("as many as can be", Due.tell(x, KEY.repeat(8) + LOCK.repeat(6) + PERSON.repeat(4)), 18);
        is("keys", x.count(0), 8);
        is("locks", x.count(1), 6);
        is("people", x.count(2), 4);
        is("key 7", x.key(7, 0), 0);
        is("lock 5", x.lock(5), 0);
        is("one to whom a key is given", x.give(7, 3), -4);
    }

    private static void emptyThen() {
        NotchKeys x = new NotchKeys();
        is("a full text", Due.tell(x, KEY.repeat(8) + " ".repeat(188)), 8);
        is("bytes", x.count(6), 0);
        is("clear", x.clear(), 0);
        is("the empty text tells nothing", x.house(), 0);
        is("keys", x.count(0), 0);
    }

    private static void faultChangesNothing() {
        NotchKeys x = Due.told(PERSON + "key xoooooooo;lock xoooooooo;holds 0 0;");
        x.cut(2);
        x.keep(0);
        is("fault at the very end", Due.tell(x, PERSON.repeat(2) + "key xxooooooo;key xxooooooo;holds 1 0;?"), -62);
        is("bytes", x.count(6), 53);
        is("again", x.house(), -62);
        is("keys", x.count(0), 2);
        is("row", x.key(0, 0), 1);
        is("holder", x.key(0, 1), 0);
        is("locks", x.count(1), 1);
        is("people", x.count(2), 1);
        is("what may be undone", x.count(5), 1);
        is("image", x.back(0), 2);
        is("more may be typed behind it", x.type(59, 1), 54);
    }

    private static void readAnew() {
        NotchKeys x = Due.told(PERSON + "key xxxxxxxxx;lock xxxxxxxxx;holds 0 0;");
        x.cut(511);
        x.lose(1);
        is("a key alone", Due.tell(x, KEY), 1);
        is("row", x.key(0, 0), 0);
        is("in the box", x.key(0, 1), -4);
        is("key 1", x.key(1, 0), BAD);
        is("no lock", x.lock(0), BAD);
        is("nobody", x.give(0, 0), BAD);
        is("none lost", x.count(4), 0);
        is("one in the box", x.count(3), 1);
        is("cut is 1", x.cut(5), 1);
        is("nothing", x.house(), 0);
        is("no key at all", x.key(0, 0), BAD);
    }

    private static void goneAnew() {
        NotchKeys x = Due.told(PERSON + KEY);
        x.lose(0);
        x.keep(0);
        x.keep(1);
        x.rate(5, 0);
        is("house", x.house(), 0);
        is("undo", x.undo(), STATE);
        is("how many may be undone", x.count(5), 0);
        is("back 0", x.back(0), STATE);
        is("back 1", x.back(1), STATE);
        is("trace", x.trace(), 100001);
    }

    private static void tokenOutOfPlace() {
        fault("ooooooooo;", 0);
        fault("7;", 0);
        fault("key lock ooooooooo;", 4);
        fault("key 3;", 4);
        fault("key ooooooooo lock ooooooooo;", 14);
        fault("key ooooooooo 3;", 14);
        fault("lock holds;", 5);
        fault("person key;", 7);
        fault("person 1;", 7);
        fault("person ooooooooo;", 7);
        fault("   key   key", 9);
        fault(PERSON + "person person; bad", 14);
    }

    private static void ninthKey() {
        holdsGood(KEY.repeat(8), 8);
        fault(KEY.repeat(9), 112);
        fault(KEY.repeat(8) + "  key", 114);
        fault(KEY.repeat(8) + PERSON + "key bad;", 119);
    }

    private static void seventhLock() {
        holdsGood(LOCK.repeat(6), 6);
        fault(LOCK.repeat(7), 90);
        fault(LOCK.repeat(6) + " lock", 91);
    }

    private static void fifthPerson() {
        holdsGood(PERSON.repeat(4), 4);
        fault(PERSON.repeat(5), 28);
        fault(PERSON.repeat(4) + " person", 29);
    }

    private static void notTold() {
        fault("holds 0 0;", 6);
        fault(PERSON + "holds 0 0;", 15);
        fault(PERSON + "holds 1 0;", 13);
        fault(KEY + "holds 0 0;", 20);
        fault(PERSON + KEY + "holds 0 1;", 29);
        fault(PERSON + KEY + "holds 1 0;", 27);
        fault(PERSON + "holds 0 0;" + KEY, 15);
        fault(KEY + "holds 0 0;" + PERSON, 20);
        fault(PERSON.repeat(4) + KEY + "holds 4 0;", 48);
        fault(PERSON + KEY.repeat(8) + "holds 0 8;", 127);
        fault(PERSON + KEY + KEY + "holds 0 10;", 43);
        fault(PERSON + KEY + KEY + "holds 0 19;", 43);
        fault(PERSON + KEY + "holds 99 0;", 27);
        fault(PERSON + KEY + "holds 0 99;", 29);
    }

    private static void heldAlready() {
        fault(PERSON + KEY + "holds 0 0;holds 0 0;", 39);
        fault(PERSON + PERSON + KEY + "holds 0 0;holds 1 0;", 46);
        fault(PERSON + KEY + "holds 0 0;" + KEY + "holds 0 1;holds 0 0;", 63);
        NotchKeys x = Due.told(PERSON + KEY + "holds 0 0;");
        is("held by an older text is not held already", Due.tell(x, PERSON + KEY + "holds 0 0;"), 3);
    }

    private static void byteBeginsNone() {
        for (int sign = 0; sign < 256; sign++) {
            boolean begins = sign == ' ' || sign >= '0' && sign <= '9' || sign >= 'a' && sign <= 'z' || sign == ';';
            if (!begins) {
                fault("" + (char) sign, 0);
                fault(PERSON + "  person " + (char) sign, 16);
            }
        }
        fault("key ooooooooo-;", 13);
        fault("person:;", 6);
        fault(PERSON + KEY + "holds -0 0;", 27);
    }

    private static void wordIsNone() {
        fault("a;", 0);
        fault("ke ooooooooo;", 0);
        fault("keys ooooooooo;", 0);
        fault("loc ooooooooo;", 0);
        fault("locks ooooooooo;", 0);
        fault("persom;", 0);
        fault("persons;", 0);
        fault("hold 0 0;", 0);
        fault("holdss 0 0;", 0);
        fault("lockey ooooooooo;", 0);
        fault(PERSON + "person x;", 14);
        fault("k", 0);
        fault("persona;", 0);
        fault("personz;", 0);
    }

    private static void numberAbove99() {
        fault(PERSON + KEY + "holds 100 0;", 27);
        fault(PERSON + KEY + "holds 0 100;", 29);
        fault(PERSON + KEY + "holds 0 999999999999999999999;", 29);
        fault(PERSON + KEY + "holds 4294967296 0;", 27);
        fault("100", 0);
        fault("person 256;", 7);
    }

    private static void zeroAhead() {
        fault(PERSON + KEY + "holds 00 0;", 27);
        fault(PERSON + KEY + "holds 0 00;", 29);
        fault(PERSON + PERSON + KEY + "holds 01 0;", 34);
        fault(PERSON + KEY + KEY + "holds 0 01;", 43);
        fault(PERSON + KEY + "holds 0 000;", 29);
    }

    private static void endsTooEarly() {
        fault("key", 3);
        fault("key    ", 7);
        fault("key ooooooooo", 13);
        fault("lock ", 5);
        fault("lock ooooooooo  ", 16);
        fault("person", 6);
        fault("person;person ", 14);
        fault(PERSON + KEY + "holds", 26);
        fault(PERSON + KEY + "holds 0", 28);
        fault(PERSON + KEY + "holds 0 0", 30);
        fault("person" + " ".repeat(294), 300);
        fault("key oooooooo", 4);
    }

    private static void keys() {
        NotchKeys x = Due.told(PERSON + "key xxxxxxxxx;" + KEY + "holds 0 1;");
        is("largest row", x.key(0, 0), 511);
        is("least row", x.key(1, 0), 0);
        is("in the box", x.key(0, 1), -4);
        is("held", x.key(1, 1), 0);
        x.lose(0);
        is("lost", x.key(0, 1), -3);
        is("row of a lost one", x.key(0, 0), 511);
    }

    private static void noSuchKey() {
        NotchKeys x = Due.told(KEY);
        for (int k : new int[] {-1, 1, 8, MIN, MAX}) {
            is("key " + k + ", row", x.key(k, 0), BAD);
            is("key " + k + ", holder", x.key(k, 1), BAD);
        }
        for (int what : new int[] {-1, 2, MIN, MAX}) {
            is("what " + what, x.key(0, what), BAD);
        }
        x.cut(3);
        is("a key that was cut", x.key(1, 0), 3);
        x.undo();
        is("a key whose cutting was undone", x.key(1, 0), BAD);
    }

    private static void locks() {
        NotchKeys x = Due.told("lock xxxxxxxxx;" + LOCK.repeat(4) + "lock oooooooox;");
        is("first", x.lock(0), 511);
        is("last", x.lock(5), 256);
        for (int l : new int[] {-1, 6, MIN, MAX}) {
            is("lock " + l, x.lock(l), BAD);
        }
        is("of two", Due.told(LOCK.repeat(2)).lock(2), BAD);
    }

    private static void laidOddAndEven() {
        NotchKeys x = Due.told("key xxxxxxxxx;".repeat(8));
        is("none", x.laid(0), 0);
        is("one", x.laid(128), 511);
        is("two", x.laid(129), 0);
        is("seven", x.laid(127), 511);
        is("eight", x.laid(255), 0);
    }

    private static void laidOfNoKeys() {
        NotchKeys x = Due.told("key xoooooooo;key oxooooooo;");
        for (int keys : new int[] {4, 5, 7, 128, 256, -1, MIN, MAX, MIN + 1}) {
            is("laid of " + keys, x.laid(keys), BAD);
        }
        x.lose(1);
        is("lost", x.laid(2), BAD);
        is("lost, with another", x.laid(3), BAD);
        is("without it", x.laid(1), 1);
        x.undo();
        is("found", x.laid(3), 3);
    }
}
