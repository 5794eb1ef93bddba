/** Each promise of the document: ordinary calls, the edges it names, and wrong calls. */
public final class PromisesTest {
    private static final int BAD = -1, STATE = -2, FULL = -3, NONE = -9;

    /** Keys 1, 2, 3, 4 (0 and 1 held by their own numbers, 2 and 3 in the box), locks 3, 7, 16. */
    private static final String SMALL = "key xoooooooo;key oxooooooo;key xxooooooo;key ooxoooooo;"
        + "lock xxooooooo;lock xxxoooooo;lock ooooxoooo;person;person;holds 0 0;holds 1 1;";
    /** Four people with a key each; the lock needs them all. */
    private static final String FOUR = "key xoooooooo;key oxooooooo;key ooxoooooo;key oooxooooo;lock xxxxooooo;"
        + "person;person;person;person;holds 0 0;holds 1 1;holds 2 2;holds 3 3;";
    private static final String ZERO_KEY = "key ooooooooo;";

    private PromisesTest() {
    }

    public static void main(String[] args) {
        constants();
        newObject();
        type();
        clear();
        houseThatHolds();
        houseFaults();
        houseLimits();
        houseThatFailsChangesNothing();
        houseReadAnew();
        key();
        lock();
        laid();
        cut();
        give();
        lose();
        forge();
        undo();
        alone();
        fewest();
        opens();
        groups();
        wish();
        shut();
        brings();
        rob();
        apart();
        slips();
        odds();
        rate();
        keepAndBack();
        count();
        trace();
        Due.end();
    }

    private static void is(String call, long got, long want) {
        Due.is(call, got, want);
    }

    private static NotchKeys small() {
        return Due.told(SMALL);
    }

    private static void constants() {
        is("BAD", NotchKeys.BAD, -1);
        is("STATE", NotchKeys.STATE, -2);
        is("FULL", NotchKeys.FULL, -3);
        is("NONE", NotchKeys.NONE, -9);
        is("NO", NotchKeys.NO, -1000000);
    }

    private static void newObject() {
        NotchKeys x = new NotchKeys();
        for (int what = 0; what <= 6; what++) {
            is("new count " + what, x.count(what), 0);
        }
        is("new key", x.key(0, 0), BAD);
        is("new lock", x.lock(0), BAD);
        is("new opens", x.opens(0), 0);
        is("new opens of one", x.opens(1), BAD);
        is("new undo", x.undo(), STATE);
        is("new back", x.back(0), STATE);
        is("new rate", x.rate(0, 0), NotchKeys.NO);
        is("new trace", x.trace(), 0);
    }

    private static void type() {
        NotchKeys x = new NotchKeys();
        is("type 3", x.type(0x70706b6579L, 3), 3);
        is("type 0", x.type(32, 0), BAD);
        is("type 9", x.type(32, 9), BAD);
        is("type below 0", x.type(32, -1), BAD);
        is("text after BAD", x.count(6), 3);
        is("type 8", x.type(0x20786f6f6f6f6f6fL, 8), 11);
        is("type 3 more", x.type(0x6f6f3bL, 3), 14);
        is("house of bytes, highest first", x.house(), 1);
        is("row that was typed", x.key(0, 0), 1);
        for (int i = 1; i <= 37; i++) {
            is("type to the end", x.type(-1L, 8), 8 * i);
        }
        is("type 5 at 296", x.type(0, 5), FULL);
        is("text after FULL", x.count(6), 296);
        is("type 4 at 296", x.type(0, 4), 300);
        is("type 1 at 300", x.type(0, 1), FULL);
        is("BAD ahead of FULL", x.type(0, 9), BAD);
        is("text that is full", x.count(6), 300);
    }

    private static void clear() {
        NotchKeys x = small();
        is("clear nothing", x.clear(), 0);
        Due.typeText(x, "person;");
        is("clear", x.clear(), 7);
        is("clear again", x.clear(), 0);
        is("cleared text", x.count(6), 0);
        is("keys stay at clear", x.count(0), 4);
        Due.typeText(x, "\u00ff\u00ff");
        x.clear();
        Due.typeText(x, ZERO_KEY);
        is("house behind clear", x.house(), 1);
    }

    private static void houseThatHolds() {
        NotchKeys x = new NotchKeys();
        is("house of nothing", x.house(), 0);
        is("house of blanks", Due.tell(x, "    "), 0);
        is("small", Due.tell(x, SMALL), 11);
        is("text is empty then", x.count(6), 0);
        is("keys", x.count(0), 4);
        is("locks", x.count(1), 3);
        is("people", x.count(2), 2);
        is("blanks anywhere", Due.tell(x, "  key   xooooooox  ;person ;  holds  0  0 ;  "), 3);
        is("notch 0 first", x.key(0, 0), 257);
        is("holder", x.key(0, 1), 0);
        is("no blank needed", Due.tell(x, "person;key oxooooooo;holds0 0;lock ooooooooo;"), 4);
        is("holder of that", x.key(0, 1), 0);
        is("house of nothing again", x.house(), 0);
        is("nobody then", x.count(0) + x.count(1) + x.count(2), 0);
        is("ends too early", Due.tell(x, "holds"), -15);
        is("heard anew behind that", Due.tell(x, "person;"), 1);
    }

    private static void fault(String text, int place) {
        NotchKeys x = new NotchKeys();
        is("fault of '" + text + "'", Due.tell(x, text), -10 - place);
        is("text stays '" + text + "'", x.count(6), text.length());
    }

    private static void houseFaults() {
        fault(";", 0);
        fault("xoooooooo;", 0);
        fault("1;", 0);
        fault("person;;", 7);
        fault("keys xoooooooo;", 0);
        fault("keyz xoooooooo;", 0);
        fault("keya xoooooooo;", 0);
        fault("hey xoooooooo;", 0);
        fault("keyxoooooooo;", 0);
        fault("Key xoooooooo;", 0);
        fault("key Xoooooooo;", 4);
        fault("key xooooooo;", 4);
        fault("key xooooooooo;", 4);
        fault("key xoooooooa;", 4);
        fault("key 1;", 4);
        fault("key ;", 4);
        fault("key key xoooooooo;", 4);
        fault("key xoooooooo1;", 13);
        fault("key xoooooooo xoooooooo;", 14);
        fault("lock person;", 5);
        fault("lock xoooooooo person;", 15);
        fault("person 0;", 7);
        fault("person;holds;", 12);
        fault("person;key xoooooooo;holds 0;", 28);
        fault("person;key xoooooooo;holds 0 xoooooooo;", 29);
        fault("person;key xoooooooo;holds 0 0 0;", 31);
        fault("person;key xoooooooo;holds 0 0person;", 30);
        fault("person\t;", 6);
        fault("\u0000", 0);
        fault("person;\u00e9", 7);
        fault("person;-1;", 7);
        fault("key{", 3);
        fault("`", 0);
        fault("person;key ooooooooo;holds 0:", 28);
        fault("person;key ooooooooo;holds 0/", 28);
        fault("key xoooooooo\u00a0;", 13);
        fault("holds 0 0;", 6);
        fault("person;holds 1 0;", 13);
        fault("person;holds 0 0;", 15);
        fault("person;holds 0 0;key xoooooooo;", 15);
        fault("person;key xoooooooo;holds 0 1;", 29);
        fault("person;key xoooooooo;holds 0 99;", 29);
        fault("person;key xoooooooo;holds 0 100;", 29);
        fault("person;key xoooooooo;holds 0 00;", 29);
        fault("person;key xoooooooo;key xoooooooo;holds 0 19;", 43);
        fault("person;key xoooooooo;key xoooooooo;holds 0 10;", 43);
        fault("person;key xoooooooo;holds 00 0;", 27);
        fault("person;person;key xoooooooo;holds 01 0;", 34);
        fault("person;key xoooooooo;holds 0 4294967296;", 29);
        fault("person;person;key xoooooooo;holds 1 0;holds 0 0;", 46);
        fault("key", 3);
        fault("key  ", 5);
        fault("key xoooooooo", 13);
        fault("person", 6);
        fault("person;holds", 12);
        fault("person;holds 0", 14);
        fault("person;key xoooooooo;holds 0 0  ", 32);
    }

    private static String times(String item, int n) {
        return item.repeat(n);
    }

    private static void houseLimits() {
        String keys = times(ZERO_KEY, 8);
        String locks = times("lock ooooooooo;", 6);
        String people = times("person;", 4);
        fault(keys + ZERO_KEY, keys.length());
        fault(keys + "key", keys.length());
        fault(locks + "lock ooooooooo;", locks.length());
        fault(people + " person;", people.length() + 1);
        NotchKeys x = new NotchKeys();
        String holds = "holds0 0;holds0 1;holds0 2;holds0 3;holds3 7;";
        is("house as large as can be", Due.tell(x, keys + locks + people + holds), 23);
        is("last key's holder", x.key(7, 1), 3);
        is("last lock", x.lock(5), 0);
        fault("person;" + keys + "holds0 7;holds0 8;", 7 + keys.length() + 16);
        fault(people + ZERO_KEY + "holds4 0;", people.length() + ZERO_KEY.length() + 5);
        is("300 bytes", Due.tell(x, times(" ", 286) + ZERO_KEY), 1);
        is("ends too early at 300", Due.tell(x, times(" ", 287) + "key ooooooooo"), -310);
    }

    private static void houseThatFailsChangesNothing() {
        NotchKeys x = small();
        x.cut(5);
        x.keep(1);
        is("failed house", Due.tell(x, "person;key xxxxxxxxx;lock xxxxxxxxx;bad"), -46);
        is("text stays", x.count(6), 39);
        is("keys stay", x.count(0), 5);
        is("rows stay", x.key(0, 0), 1);
        is("holders stay", x.key(1, 1), 1);
        is("locks stay", x.lock(0), 3);
        is("lock count stays", x.count(1), 3);
        is("people stay", x.count(2), 2);
        is("image stays", x.back(1), 5);
        is("undo stays", x.undo(), 0);
    }

    private static void houseReadAnew() {
        NotchKeys x = small();
        x.lose(3);
        x.keep(0);
        x.keep(1);
        x.rate(0, 0);
        is("read anew", Due.tell(x, "key oxooooooo;"), 1);
        is("keys anew", x.count(0), 1);
        is("row anew", x.key(0, 0), 2);
        is("holder anew", x.key(0, 1), -4);
        is("no locks", x.lock(0), BAD);
        is("nobody", x.count(2), 0);
        is("nothing lost", x.count(4), 0);
        is("nothing to undo", x.undo(), STATE);
        is("image 0 is gone", x.back(0), STATE);
        is("image 1 is gone", x.back(1), STATE);
        is("trace goes on", x.trace(), 1);
    }

    private static void key() {
        NotchKeys x = small();
        is("row", x.key(2, 0), 3);
        is("holder", x.key(1, 1), 1);
        is("in the box", x.key(2, 1), -4);
        x.lose(2);
        is("lost", x.key(2, 1), -3);
        is("row of a lost one", x.key(2, 0), 3);
        is("key 4", x.key(4, 0), BAD);
        is("key -1", x.key(-1, 0), BAD);
        is("key 8", x.key(8, 1), BAD);
        is("what 2", x.key(0, 2), BAD);
        is("what -1", x.key(0, -1), BAD);
    }

    private static void lock() {
        NotchKeys x = small();
        is("lock 0", x.lock(0), 3);
        is("lock 2", x.lock(2), 16);
        is("lock 3", x.lock(3), BAD);
        is("lock -1", x.lock(-1), BAD);
        is("lock 6", x.lock(6), BAD);
    }

    private static void laid() {
        NotchKeys x = small();
        is("none", x.laid(0), 0);
        is("two", x.laid(3), 3);
        is("cancelled", x.laid(7), 0);
        is("all", x.laid(15), 4);
        is("no such key", x.laid(16), BAD);
        is("below 0", x.laid(-1), BAD);
        is("far off", x.laid(Integer.MIN_VALUE), BAD);
        x.lose(3);
        is("lost one", x.laid(8), BAD);
        is("without the lost one", x.laid(6), 1);
    }

    private static void cut() {
        NotchKeys x = small();
        is("row 512", x.cut(512), BAD);
        is("row -1", x.cut(-1), BAD);
        is("nothing cut", x.count(0) + x.count(5), 4);
        is("cut", x.cut(511), 4);
        is("its row", x.key(4, 0), 511);
        is("in the box", x.key(4, 1), -4);
        is("undo it", x.undo(), 0);
        is("gone", x.key(4, 0), BAD);
        for (int k = 4; k < 8; k++) {
            is("cut to the end", x.cut(0), k);
        }
        is("ninth", x.cut(0), FULL);
        is("BAD ahead of FULL", x.cut(512), BAD);
        x.lose(0);
        is("lost ones count", x.cut(0), FULL);
        is("undo known", x.count(5), 5);
    }

    private static void give() {
        NotchKeys x = small();
        is("out of the box", x.give(2, 1), -4);
        is("who has it", x.key(2, 1), 1);
        is("to another", x.give(2, 0), 1);
        is("into the box", x.give(2, -4), 0);
        is("there already: box", x.give(2, -4), STATE);
        is("there already: person", x.give(0, 0), STATE);
        is("no such person", x.give(0, 2), BAD);
        is("-3 is nobody", x.give(0, -3), BAD);
        is("-1 is nobody", x.give(0, -1), BAD);
        is("no such key", x.give(4, 0), BAD);
        is("key -1", x.give(-1, 0), BAD);
        x.lose(0);
        is("lost one", x.give(0, 1), STATE);
        is("lost one to the box", x.give(0, -4), STATE);
        is("lost one to nobody", x.give(0, 2), BAD);
        is("four changes", x.count(5), 4);
    }

    private static void lose() {
        NotchKeys x = small();
        is("held", x.lose(1), 1);
        is("of the box", x.lose(2), -4);
        is("lost already", x.lose(1), STATE);
        is("no such key", x.lose(4), BAD);
        is("key -1", x.lose(-1), BAD);
        is("two lost", x.count(4), 2);
        is("two changes", x.count(5), 2);
    }

    private static void forge() {
        NotchKeys x = small();
        is("notch 8", x.forge(0, 8), 257);
        is("notch 0 off", x.forge(0, 0), 256);
        is("its row", x.key(0, 0), 256);
        is("holder stays", x.key(0, 1), 0);
        is("notch 9", x.forge(0, 9), BAD);
        is("notch -1", x.forge(0, -1), BAD);
        is("no such key", x.forge(4, 0), BAD);
        is("key -1", x.forge(-1, 0), BAD);
        x.lose(0);
        is("lost", x.forge(0, 0), STATE);
        is("BAD ahead of STATE", x.forge(0, 9), BAD);
        is("three changes", x.count(5), 3);
    }

    private static void undo() {
        NotchKeys x = small();
        is("nothing to undo", x.undo(), STATE);
        x.give(0, 1);
        x.lose(0);
        x.forge(1, 3);
        x.cut(9);
        x.lose(4);
        is("lost comes back", x.undo(), 4);
        is("in the box again", x.key(4, 1), -4);
        is("cut goes", x.undo(), 3);
        is("gone", x.count(0), 4);
        is("forged back", x.undo(), 2);
        is("row as it was", x.key(1, 0), 2);
        is("lose back", x.undo(), 1);
        is("holder before", x.key(0, 1), 1);
        is("give back", x.undo(), 0);
        is("first holder", x.key(0, 1), 0);
        is("no more", x.undo(), STATE);
        for (int i = 0; i < 12; i++) {
            x.forge(0, i % 9);
        }
        is("ten are known", x.count(5), 10);
        for (int i = 9; i >= 0; i--) {
            is("undo of ten", x.undo(), i);
        }
        is("older ones are lost", x.undo(), STATE);
        is("two stay forged", x.key(0, 0), 1 ^ 1 ^ 2);
        x.cut(7);
        x.undo();
        is("number is free again", x.cut(8), 4);
        is("new row", x.key(4, 0), 8);
        undoOfTenMixed();
    }

    private static void undoOfTenMixed() {
        NotchKeys x = small();
        x.forge(0, 8);
        x.forge(0, 8);
        x.give(1, 0);
        x.lose(2);
        x.cut(64);
        for (int i = 0; i < 7; i++) {
            x.forge(4, i);
        }
        for (int i = 9; i >= 2; i--) {
            is("undo behind forgotten ones", x.undo(), i);
        }
        is("cut is undone", x.count(0), 4);
        is("lost still", x.key(2, 1), -3);
        is("undo of lose", x.undo(), 1);
        is("found", x.key(2, 1), -4);
        is("given still", x.key(1, 1), 0);
        is("undo of give", x.undo(), 0);
        is("given back", x.key(1, 1), 1);
        is("no more of twelve", x.undo(), STATE);
    }

    private static void alone() {
        NotchKeys x = small();
        is("third is made by two", x.alone(), 11);
        x.lose(0);
        is("not by a lost one", x.alone(), 14);
        x.cut(3);
        is("same row again", x.alone(), 14);
        x.cut(0);
        is("nowhere cut", x.alone(), 14);
        NotchKeys y = Due.told(ZERO_KEY);
        is("first, nowhere cut", y.alone(), 0);
    }

    private static void fewest() {
        NotchKeys x = small();
        is("one key", x.fewest(3, 8, 0), 1);
        is("which", x.fewest(3, 8, 1), 4);
        is("two keys", x.fewest(7, 8, 0), 2);
        is("which two", x.fewest(7, 2, 1), 12);
        is("limit", x.fewest(7, 1, 0), NONE);
        is("limit, set", x.fewest(7, 1, 1), NONE);
        is("no keys", x.fewest(0, 0, 0), 0);
        is("no keys, set", x.fewest(0, 8, 1), 0);
        is("not made", x.fewest(16, 8, 1), NONE);
        x.cut(3);
        is("least bits", x.fewest(3, 8, 1), 4);
        x.lose(2);
        is("not with a lost one", x.fewest(3, 8, 1), 16);
        is("row 512", x.fewest(512, 8, 0), BAD);
        is("row -1", x.fewest(-1, 8, 0), BAD);
        is("limit 9", x.fewest(0, 9, 0), BAD);
        is("limit -1", x.fewest(0, -1, 0), BAD);
        is("what 2", x.fewest(0, 0, 2), BAD);
        is("what -1", x.fewest(0, 0, -1), BAD);
        NotchKeys y = Due.told("key xxooooooo;key ooxxooooo;key xoxoooooo;key oxoxooooo;");
        is("two pairs make it, least bits", y.fewest(15, 8, 1), 3);
        is("other pairs", y.fewest(6, 8, 1), 5);
        y.cut(16);
        y.lose(3);
        is("all that are there", y.fewest(26, 8, 1), 23);
    }

    private static void opens() {
        NotchKeys x = small();
        is("nobody", x.opens(0), 0);
        is("one", x.opens(1), 0);
        is("both, not with the box", x.opens(3), 1);
        x.give(3, 0);
        is("both, lock 1 too", x.opens(3), 3);
        x.lose(1);
        is("lost", x.opens(3), 0);
        is("no such person", x.opens(4), BAD);
        is("below 0", x.opens(-1), BAD);
        NotchKeys y = Due.told("lock ooooooooo;person;");
        is("nobody opens what is nowhere cut", y.opens(0), 1);
        is("one, too", y.opens(1), 1);
    }

    private static void groups() {
        NotchKeys x = Due.told("key xxooooooo;key ooxoooooo;key xxxoooooo;key xxooooooo;lock xxxoooooo;lock ooooooooo;"
            + "lock ooooxoooo;person;person;person;person;holds 0 0;holds 1 1;holds 2 2;holds 3 3;");
        is("how many", x.groups(0, -1), 3);
        is("first", x.groups(0, 0), 3);
        is("second", x.groups(0, 1), 4);
        is("third", x.groups(0, 2), 10);
        is("not so many", x.groups(0, 3), -5);
        is("far too many", x.groups(0, Integer.MAX_VALUE), -5);
        is("all of them", Due.told(FOUR).groups(0, 0), 15);
        is("nobody is enough", x.groups(1, -1), 1);
        is("nobody", x.groups(1, 0), 0);
        is("none", x.groups(2, -1), 0);
        is("none, first", x.groups(2, 0), -5);
        is("no such lock", x.groups(3, -1), BAD);
        is("lock -1", x.groups(-1, -1), BAD);
        is("i -2", x.groups(0, -2), BAD);
        x.lose(2);
        is("without the lost key", x.groups(0, -1), 2);
    }

    private static void wish() {
        NotchKeys x = small();
        is("one more for both", x.wish(0, 3, 1), 4);
        is("by the other", x.wish(1, 3, 1), 4);
        is("for one alone", x.wish(1, 2, 2), 16);
        is("opened by both already, one of them wanted", x.wish(0, 1, 0), 2);
        is("opened by just both already", x.wish(0, 3, 0), 0);
        is("both, nothing of one may be enough", x.wish(1, 3, 2), 17);
        is("not of the group", x.wish(0, 2, 0), BAD);
        is("group of nobody", x.wish(0, 0, 0), BAD);
        is("no such person", x.wish(2, 3, 0), BAD);
        is("person -1", x.wish(-1, 3, 0), BAD);
        is("person 31", x.wish(31, -1, 0), BAD);
        is("no such group", x.wish(0, 5, 0), BAD);
        is("group below 0", x.wish(0, -1, 0), BAD);
        is("no such lock", x.wish(0, 1, 3), BAD);
        is("lock -1", x.wish(0, 1, -1), BAD);
        NotchKeys y = Due.told("lock ooooooooo;person;");
        is("nobody opens it, too", y.wish(0, 1, 0), NONE);
        x.give(2, 1);
        is("another opens it already", x.wish(0, 1, 0), NONE);
        is("a part of the group opens it already", x.wish(0, 3, 0), NONE);
        NotchKeys z = Due.told("lock xoooooooo;person;person;");
        is("one without keys can't be needed", z.wish(0, 3, 0), NONE);
        is("one alone", z.wish(0, 1, 0), 1);
        NotchKeys full = Due.told(times(ZERO_KEY, 8) + "lock xoooooooo;person;");
        is("were there 8 already, too", full.wish(0, 1, 0), 1);
    }

    private static void shut() {
        NotchKeys x = small();
        is("others make it", x.shut(0), 0);
        is("box key", x.shut(3), 2);
        x.lose(2);
        is("held key now", x.shut(0), 3);
        is("lost", x.shut(2), BAD);
        is("no such key", x.shut(4), BAD);
        is("key -1", x.shut(-1), BAD);
        NotchKeys y = Due.told("key xoooooooo;lock ooooooooo;lock xoooooooo;lock oxooooooo;");
        is("nowhere cut stays open", y.shut(0), 2);
    }

    private static void brings() {
        NotchKeys x = small();
        is("row", x.brings(0), 16);
        is("how many", x.brings(1), 3);
        x.lose(3);
        is("least of two rows", x.brings(0), 4);
        is("two", x.brings(1), 2);
        is("what 2", x.brings(2), BAD);
        is("what -1", x.brings(-1), BAD);
        is("nothing is changed", x.count(0), 4);
        NotchKeys full = Due.told(times(ZERO_KEY, 8) + "lock oxooooooo;lock xoooooooo;");
        is("were there 8 already", full.brings(0), 1);
        is("how many then", full.brings(1), 1);
        NotchKeys none = Due.told(ZERO_KEY);
        is("no locks", none.brings(0), 0);
        is("no locks, how many", none.brings(1), 0);
    }

    private static void rob() {
        NotchKeys x = small();
        is("no locks", x.rob(0), 0);
        is("box opens", x.rob(3), 0);
        is("nobody's keys", x.rob(4), NONE);
        x.lose(2);
        is("both", x.rob(1), 3);
        x.undo();
        x.give(2, 1);
        is("one is enough", x.rob(1), 2);
        is("one and the box", x.rob(3), 2);
        is("all of them", Due.told(FOUR).rob(1), 15);
        x.cut(3);
        x.give(4, 0);
        is("least bits of two", x.rob(1), 1);
        is("no such lock", x.rob(8), BAD);
        is("below 0", x.rob(-1), BAD);
    }

    private static void apart() {
        NotchKeys x = Due.told("key xxxxooooo;key xxxoxxooo;");
        is("laid on each other", x.apart(), 3);
        x.lose(0);
        is("one alone", x.apart(), 5);
        x.lose(1);
        is("none", x.apart(), NONE);
        NotchKeys y = Due.told(ZERO_KEY + ZERO_KEY);
        is("nowhere cut", y.apart(), NONE);
        y.cut(511);
        is("nine", y.apart(), 9);
        y.cut(510);
        is("one", y.apart(), 1);
    }

    private static void slips() {
        NotchKeys x = Due.told("key xoooooooo;key oxooooooo;key ooxoooooo;"
            + "lock xooooooox;lock oxooooooo;lock xoxooooxx;");
        is("one of one", x.slips(1, 0, -1), 1);
        is("which", x.slips(1, 0, 0), 8);
        is("no second", x.slips(1, 0, 1), -5);
        is("two of two", x.slips(3, 1, -1), 2);
        is("key by key", x.slips(3, 1, 0), 0);
        is("second key", x.slips(3, 1, 1), 10);
        is("key numbers of the set", x.slips(6, 1, 1), 22);
        is("opens already", x.slips(2, 1, -1), 0);
        is("opens already, first", x.slips(2, 1, 0), -5);
        is("two notches off", x.slips(5, 2, -1), 0);
        is("no keys, one notch off", x.slips(0, 1, -1), 0);
        is("no such key", x.slips(8, 0, -1), BAD);
        is("below 0", x.slips(-1, 0, -1), BAD);
        is("no such lock", x.slips(1, 3, -1), BAD);
        is("lock -1", x.slips(1, -1, -1), BAD);
        is("i -2", x.slips(1, 0, -2), BAD);
        x.lose(0);
        is("lost", x.slips(1, 0, -1), BAD);
    }

    private static void odds() {
        NotchKeys x = small();
        is("2 of 4 make 3: upper", x.odds(2, 3, 0), 1);
        is("2 of 4 make 3: lower", x.odds(2, 3, 1), 6);
        is("3 of 4 make 0", x.odds(3, 0, 1), 4);
        is("no key makes 0", x.odds(0, 0, 0), 1);
        is("of one set", x.odds(0, 0, 1), 1);
        is("never", x.odds(1, 16, 0), 0);
        is("never, lower", x.odds(1, 16, 1), 1);
        is("not so many", x.odds(5, 0, 0), 0);
        is("not so many, lower", x.odds(5, 0, 1), 1);
        is("8 of 4", x.odds(8, 0, 0), 0);
        is("4 of 4", x.odds(4, 4, 0), 1);
        x.cut(1);
        x.lose(3);
        is("least terms", x.odds(1, 1, 0), 1);
        is("least terms, lower", x.odds(1, 1, 1), 2);
        is("k 9", x.odds(9, 0, 0), BAD);
        is("k -1", x.odds(-1, 0, 0), BAD);
        is("row 512", x.odds(0, 512, 0), BAD);
        is("row -1", x.odds(0, -1, 0), BAD);
        is("what 2", x.odds(0, 0, 2), BAD);
        is("what -1", x.odds(0, 0, -1), BAD);
    }

    private static void rate() {
        // Person 1 holds keys 1 (row 2), 2 (row 3), 3 (row 4): it opens locks 3 and 7; key 0 is in the box.
        NotchKeys x = small();
        x.give(2, 1);
        x.give(3, 1);
        x.give(0, -4);
        is("person", x.rate(0, 1), 3);
        is("cook", x.rate(1, 1), 5);
        is("maid", x.rate(2, 1), 1);
        is("steward", x.rate(3, 1), 10);
        is("groom", x.rate(4, 1), 2);
        is("thief", x.rate(5, 1), 4);
        is("of one without keys", x.rate(5, 0), 1);
        x.lose(3);
        is("lost key is not held", x.rate(0, 1), 2);
        is("kind 6", x.rate(6, 0), NotchKeys.NO);
        is("kind -1", x.rate(-1, 0), NotchKeys.NO);
        is("no such person", x.rate(0, 2), NotchKeys.NO);
        is("person -1", x.rate(0, -1), NotchKeys.NO);
        is("below 0", Due.told("person;key xxxxxxxxx;holds 0 0;").rate(2, 0), -8);
        is("nowhere cut opens", Due.told("person;lock ooooooooo;").rate(1, 0), 1);
    }

    private static void keepAndBack() {
        NotchKeys x = small();
        is("keep 2", x.keep(2), BAD);
        is("keep -1", x.keep(-1), BAD);
        is("back 2", x.back(2), BAD);
        is("back -1", x.back(-1), BAD);
        is("none kept", x.back(1), STATE);
        x.lose(2);
        is("keep, lost ones too", x.keep(0), 4);
        is("other image", x.back(1), STATE);
        x.forge(0, 8);
        x.give(1, 0);
        x.cut(1);
        is("keep later", x.keep(1), 5);
        Due.typeText(x, "abc");
        is("back", x.back(0), 4);
        is("row as kept", x.key(0, 0), 1);
        is("holder as kept", x.key(1, 1), 1);
        is("lost as kept", x.key(2, 1), -3);
        is("count as kept", x.count(0), 4);
        is("undo as kept", x.count(5), 1);
        is("text stays", x.count(6), 3);
        is("undo what was kept", x.undo(), 0);
        is("found again", x.key(2, 1), -4);
        is("image is kept on", x.back(0), 4);
        is("lost again", x.key(2, 1), -3);
        is("later image", x.back(1), 5);
        is("its row", x.key(0, 0), 257);
        is("its undo", x.undo(), 3);
        is("its cut is undone", x.count(0), 4);
        is("kept anew", x.keep(1), 4);
        is("back to that", x.back(1), 4);
        x.rate(0, 0);
        x.back(0);
        x.undo();
        is("trace goes on", x.trace(), 1);
        imageKeepsUndo();
    }

    private static void imageKeepsUndo() {
        NotchKeys x = small();
        x.lose(1);
        x.cut(5);
        x.keep(0);
        x.undo();
        x.undo();
        x.give(0, 1);
        x.forge(3, 0);
        is("back", x.back(0), 5);
        is("undo of the cut", x.undo(), 1);
        is("keys then", x.count(0), 4);
        is("given no more", x.key(0, 1), 0);
        is("lost as kept", x.key(1, 1), -3);
        is("undo of the loss", x.undo(), 0);
        is("holder then", x.key(1, 1), 1);
        is("row then", x.key(3, 0), 4);
        is("no more", x.undo(), STATE);
    }

    private static void count() {
        NotchKeys x = small();
        x.lose(0);
        Due.typeText(x, "person");
        is("keys", x.count(0), 4);
        is("locks", x.count(1), 3);
        is("people", x.count(2), 2);
        is("in the box", x.count(3), 2);
        is("lost", x.count(4), 1);
        is("undo", x.count(5), 1);
        is("text", x.count(6), 6);
        is("what 7", x.count(7), BAD);
        is("what -1", x.count(-1), BAD);
    }

    private static void trace() {
        NotchKeys x = small();
        long due = 0;
        long[] bodies = {1, 11, 101, 1011, 10101, 100001};
        for (int kind = 0; kind < bodies.length; kind++) {
            x.rate(kind, 1);
            due += bodies[kind];
            is("trace behind kind " + kind, x.trace(), due);
        }
        x.rate(6, 0);
        x.rate(3, 2);
        x.opens(3);
        is("trace behind refused calls", x.trace(), due);
        x.house();
        is("trace behind house", x.trace(), due);
    }
}
