/** Keys, locks and people of a house whose notches cancel when keys are laid on each other. */
public final class NotchKeys {
    public static final int BAD = -1, STATE = -2, FULL = -3, NONE = -9;
    /** What none is, where a number may be below 0. */
    public static final int NO = -1000000;

    private static final int NOTCHES = 9, ROWS = 512;
    private static final int MOST_KEYS = 8, MOST_LOCKS = 6, MOST_PEOPLE = 4;
    private static final int MOST_BYTES = 300, MOST_UNDONE = 10;
    private static final int LOST = -3, IN_BOX = -4, NOT_SO_MANY = -5, FAULT_BASE = -10;

    private final Tale tale = new Tale();
    private final Home now = new Home();
    private final Home draft = new Home();
    private final Ring firstImage = new Ring();
    private final Ring secondImage = new Ring();
    private final Span span = new Span();
    private final boolean[] barred = new boolean[ROWS];
    private final int[] lacks = new int[MOST_LOCKS];
    private long traced;

    public NotchKeys() {
    }

    // ---- the house

    public int type(long v, int n) {
        if (n < 1 || n > 8) {
            return BAD;
        }
        if (tale.length + n > MOST_BYTES) {
            return FULL;
        }
        for (int i = n - 1; i >= 0; i--) {
            tale.append((byte) (v >> (8 * i)));
        }
        return tale.length;
    }

    public int clear() {
        int before = tale.length;
        tale.length = 0;
        return before;
    }

    public int house() {
        int items = draft.hear(tale);
        if (items < 0) {
            return items;
        }
        now.copyOf(draft);
        firstImage.kept = false;
        secondImage.kept = false;
        tale.length = 0;
        return items;
    }

    public int key(int k, int what) {
        if (!now.ring.has(k) || !isEither(what)) {
            return BAD;
        }
        return what == 0 ? now.ring.rows[k] : now.ring.holders[k];
    }

    public int lock(int l) {
        return now.hasLock(l) ? now.locks[l] : BAD;
    }

    public int laid(int keys) {
        return within(keys, now.ring.usable()) ? now.ring.madeBy(keys) : BAD;
    }

    // ---- keys come and go

    public int cut(int row) {
        if (!isRow(row)) {
            return BAD;
        }
        if (now.ring.size >= MOST_KEYS) {
            return FULL;
        }
        int k = now.ring.size;
        now.ring.remember(k);
        now.ring.append(row);
        return k;
    }

    public int give(int k, int p) {
        if (!now.ring.has(k) || (p != IN_BOX && !now.hasPerson(p))) {
            return BAD;
        }
        int holder = now.ring.holders[k];
        if (holder == LOST || holder == p) {
            return STATE;
        }
        now.ring.remember(k);
        now.ring.holders[k] = p;
        return holder;
    }

    public int lose(int k) {
        if (!now.ring.has(k)) {
            return BAD;
        }
        int holder = now.ring.holders[k];
        if (holder == LOST) {
            return STATE;
        }
        now.ring.remember(k);
        now.ring.holders[k] = LOST;
        return holder;
    }

    public int forge(int k, int notch) {
        if (!now.ring.has(k) || notch < 0 || notch >= NOTCHES) {
            return BAD;
        }
        if (now.ring.holders[k] == LOST) {
            return STATE;
        }
        now.ring.remember(k);
        now.ring.rows[k] ^= 1 << notch;
        return now.ring.rows[k];
    }

    public int undo() {
        if (now.ring.known == 0) {
            return STATE;
        }
        now.ring.takeBack();
        return now.ring.known;
    }

    // ---- what opens

    public int alone() {
        Ring ring = now.ring;
        int found = 0;
        span.empty();
        for (int k = 0; k < ring.size; k++) {
            if (ring.holders[k] != LOST && span.widen(ring.rows[k])) {
                found |= 1 << k;
            }
        }
        return found;
    }

    public int fewest(int row, int limit, int what) {
        if (!isRow(row) || limit < 0 || limit > MOST_KEYS || !isEither(what)) {
            return BAD;
        }
        int all = now.ring.usable();
        int best = NONE;
        int least = limit + 1;
        for (int set = 0; set <= all; set++) {
            if (within(set, all) && Integer.bitCount(set) < least && now.ring.madeBy(set) == row) {
                best = set;
                least = Integer.bitCount(set);
            }
        }
        return best == NONE || what == 1 ? best : least;
    }

    public int opens(int group) {
        if (!within(group, now.everybody())) {
            return BAD;
        }
        return openedBy(now.heldBy(group));
    }

    public int groups(int l, int i) {
        if (!now.hasLock(l) || i < -1) {
            return BAD;
        }
        int found = 0;
        for (int group = 0; group <= now.everybody(); group++) {
            if (isLeastFor(group, l)) {
                if (found == i) {
                    return group;
                }
                found++;
            }
        }
        return i == -1 ? found : NOT_SO_MANY;
    }

    public int wish(int p, int group, int l) {
        if (!now.hasPerson(p) || !within(group, now.everybody()) || !now.hasLock(l)) {
            return BAD;
        }
        if ((group >> p & 1) == 0) {
            return BAD;
        }
        if (!barRowsForOthers(p, group, now.locks[l])) {
            return NONE;
        }
        return leastWish(group, now.locks[l]);
    }

    public int shut(int k) {
        int all = now.ring.usable();
        if (!now.ring.has(k) || now.ring.holders[k] == LOST) {
            return BAD;
        }
        return openedBy(all) & ~openedBy(all & ~(1 << k));
    }

    public int brings(int what) {
        if (!isEither(what)) {
            return BAD;
        }
        noteLacks();
        int best = 0;
        int most = -1;
        for (int row = 0; row < ROWS; row++) {
            int opened = openedWith(row);
            if (opened > most) {
                most = opened;
                best = row;
            }
        }
        return what == 0 ? best : most;
    }

    public int rob(int locks) {
        if (!within(locks, now.allLocks())) {
            return BAD;
        }
        int box = now.ring.keptBy(IN_BOX);
        int best = NONE;
        int least = MOST_PEOPLE + 1;
        for (int group = 0; group <= now.everybody(); group++) {
            if (Integer.bitCount(group) < least && within(locks, openedBy(now.heldBy(group) | box))) {
                best = group;
                least = Integer.bitCount(group);
            }
        }
        return best;
    }

    public int apart() {
        fillSpan(now.ring.usable());
        int least = NOTCHES + 1;
        for (int row = 1; row < ROWS; row++) {
            if (Integer.bitCount(row) < least && span.makes(row)) {
                least = Integer.bitCount(row);
            }
        }
        return least > NOTCHES ? NONE : least;
    }

    public int slips(int keys, int l, int i) {
        if (!within(keys, now.ring.usable()) || !now.hasLock(l) || i < -1) {
            return BAD;
        }
        int wrong = now.ring.madeBy(keys) ^ now.locks[l];
        // One changed notch changes the laid row in just this notch, whichever key bears it.
        int many = Integer.bitCount(wrong) == 1 ? Integer.bitCount(keys) : 0;
        if (i == -1) {
            return many;
        }
        return i < many ? 10 * bitAt(keys, i) + bitAt(wrong, 0) : NOT_SO_MANY;
    }

    public int odds(int k, int row, int what) {
        if (k < 0 || k > MOST_KEYS || !isRow(row) || !isEither(what)) {
            return BAD;
        }
        int all = now.ring.usable();
        int sets = 0;
        int good = 0;
        for (int set = 0; set <= all; set++) {
            if (within(set, all) && Integer.bitCount(set) == k) {
                sets++;
                good += now.ring.madeBy(set) == row ? 1 : 0;
            }
        }
        if (sets == 0) {
            return what == 0 ? 0 : 1;
        }
        return leastTerm(what == 0 ? good : sets, good, sets);
    }

    // ---- kinds, images

    public int rate(int kind, int p) {
        if (!now.hasPerson(p)) {
            return NO;
        }
        switch (kind) {
            case 0:
                return ratePerson(p);
            case 1:
                return rateCook(p);
            case 2:
                return rateMaid(p);
            case 3:
                return rateSteward(p);
            case 4:
                return rateGroom(p);
            case 5:
                return rateThief(p);
            default:
                return NO;
        }
    }

    public int keep(int image) {
        if (!isEither(image)) {
            return BAD;
        }
        Ring ring = imageAt(image);
        ring.copyOf(now.ring);
        ring.kept = true;
        return now.ring.size;
    }

    public int back(int image) {
        if (!isEither(image)) {
            return BAD;
        }
        Ring ring = imageAt(image);
        if (!ring.kept) {
            return STATE;
        }
        now.ring.copyOf(ring);
        return now.ring.size;
    }

    public int count(int what) {
        switch (what) {
            case 0:
                return now.ring.size;
            case 1:
                return now.lockCount;
            case 2:
                return now.people;
            case 3:
                return Integer.bitCount(now.ring.keptBy(IN_BOX));
            case 4:
                return Integer.bitCount(now.ring.keptBy(LOST));
            case 5:
                return now.ring.known;
            case 6:
                return tale.length;
            default:
                return BAD;
        }
    }

    public long trace() {
        return traced;
    }

    // ---- helpers

    private static boolean isRow(int row) {
        return row >= 0 && row < ROWS;
    }

    private static boolean isEither(int what) {
        return what == 0 || what == 1;
    }

    /** Whether all bits stand in a larger set, too (no number below 0 does). */
    private static boolean within(int bits, int all) {
        return (bits & ~all) == 0;
    }

    /** The place of the i-th bit that is set, from 0; -1: there are not so many. */
    private static int bitAt(int bits, int i) {
        int seen = 0;
        for (int n = 0; n < NOTCHES; n++) {
            if ((bits >> n & 1) != 0) {
                if (seen == i) {
                    return n;
                }
                seen++;
            }
        }
        return -1;
    }

    /** One of two numbers, divided by the greatest number that divides both. */
    private static int leastTerm(int one, int upper, int lower) {
        for (int d = lower; d > 1; d--) {
            if (upper % d == 0 && lower % d == 0) {
                return one / d;
            }
        }
        return one;
    }

    private Ring imageAt(int image) {
        return image == 0 ? firstImage : secondImage;
    }

    private void fillSpan(int keys) {
        span.empty();
        for (int k = 0; k < now.ring.size; k++) {
            if ((keys >> k & 1) != 0) {
                span.widen(now.ring.rows[k]);
            }
        }
    }

    /** The locks, as bits, that some of these keys open. */
    private int openedBy(int keys) {
        fillSpan(keys);
        int opened = 0;
        for (int l = 0; l < now.lockCount; l++) {
            if (span.makes(now.locks[l])) {
                opened |= 1 << l;
            }
        }
        return opened;
    }

    private boolean groupOpens(int group, int l) {
        return (openedBy(now.heldBy(group)) >> l & 1) != 0;
    }

    private boolean isLeastFor(int group, int l) {
        if (!groupOpens(group, l)) {
            return false;
        }
        // A larger part opens what a smaller one does: those that lack one are enough to ask.
        for (int p = 0; p < now.people; p++) {
            if ((group >> p & 1) != 0 && groupOpens(group & ~(1 << p), l)) {
                return false;
            }
        }
        return true;
    }

    /**
     * Bars the rows by which, held by p, people who are not the whole group could make the lock's row.
     * False: such people make it without any new key.
     */
    private boolean barRowsForOthers(int p, int group, int lockRow) {
        for (int row = 0; row < ROWS; row++) {
            barred[row] = false;
        }
        // The largest groups that have not all of them are everybody but one of them.
        for (int q = 0; q < now.people; q++) {
            if ((group >> q & 1) != 0) {
                fillSpan(now.heldBy(now.everybody() & ~(1 << q)));
                if (span.makes(lockRow)) {
                    return false;
                }
                if (q != p) {
                    barRowsOfSpan(lockRow);
                }
            }
        }
        return true;
    }

    private void barRowsOfSpan(int lockRow) {
        int lack = span.rest(lockRow);
        for (int row = 0; row < ROWS; row++) {
            if (span.rest(row) == lack) {
                barred[row] = true;
            }
        }
    }

    private int leastWish(int group, int lockRow) {
        fillSpan(now.heldBy(group));
        int lack = span.rest(lockRow);
        for (int row = 0; row < ROWS; row++) {
            if (!barred[row] && (lack == 0 || span.rest(row) == lack)) {
                return row;
            }
        }
        return NONE;
    }

    /** Notes of each lock what all keys can't make of its row. */
    private void noteLacks() {
        fillSpan(now.ring.usable());
        for (int l = 0; l < now.lockCount; l++) {
            lacks[l] = span.rest(now.locks[l]);
        }
    }

    /** How many locks all keys open with one more key of this row, behind noteLacks(). */
    private int openedWith(int row) {
        int rest = span.rest(row);
        int opened = 0;
        for (int l = 0; l < now.lockCount; l++) {
            if (lacks[l] == 0 || lacks[l] == rest) {
                opened++;
            }
        }
        return opened;
    }

    private int ratePerson(int p) {
        traced += 1;
        return Integer.bitCount(now.ring.keptBy(p));
    }

    private int rateCook(int p) {
        traced += 10;
        return ratePerson(p) + Integer.bitCount(openedBy(now.ring.keptBy(p)));
    }

    private int rateMaid(int p) {
        traced += 100;
        return ratePerson(p) - Integer.bitCount(now.ring.madeBy(now.ring.keptBy(p)));
    }

    private int rateSteward(int p) {
        traced += 1000;
        return 2 * rateCook(p);
    }

    private int rateGroom(int p) {
        traced += 10000;
        return rateMaid(p) + p;
    }

    private int rateThief(int p) {
        traced += 100000;
        return ratePerson(p) + Integer.bitCount(now.ring.keptBy(IN_BOX));
    }

    /** The text, and its tokens, one at a time. */
    static final class Tale {
        static final int END = 0, STOP = 1, NUMBER = 2, ROW = 3, WRONG = 4;
        static final int KEY = 5, LOCK = 6, PERSON = 7, HOLDS = 8;

        private final byte[] bytes = new byte[MOST_BYTES];
        int length;
        /** The first byte behind the token at hand. */
        private int place;
        /** The token at hand: its first byte, what it is, and its number or row. */
        int start, kind, value;

        void append(byte next) {
            if (length >= 0 && length < bytes.length) {
                bytes[length] = next;
                length++;
            }
        }

        void readFirst() {
            place = 0;
            readNext();
        }

        void readNext() {
            while (place < length && byteAt(place) == ' ') {
                place++;
            }
            start = place;
            int first = byteAt(start);
            if (first < 0) {
                kind = END;
            } else if (first == ';') {
                place++;
                kind = STOP;
            } else if (isDigit(first)) {
                readNumber();
            } else if (isLetter(first)) {
                readWord();
            } else {
                kind = WRONG;
            }
        }

        /** 0 .. 255; -1 behind the text's end. */
        private int byteAt(int i) {
            return i >= 0 && i < length && i < bytes.length ? bytes[i] & 255 : -1;
        }

        private static boolean isDigit(int sign) {
            return sign >= '0' && sign <= '9';
        }

        private static boolean isLetter(int sign) {
            return sign >= 'a' && sign <= 'z';
        }

        private void readNumber() {
            while (place < length && isDigit(byteAt(place))) {
                place++;
            }
            int first = byteAt(start) - '0';
            int digits = place - start;
            if (digits == 1) {
                kind = NUMBER;
                value = first;
            } else if (digits == 2 && first != 0) {
                kind = NUMBER;
                value = 10 * first + byteAt(start + 1) - '0';
            } else {
                kind = WRONG;
            }
        }

        private void readWord() {
            while (place < length && isLetter(byteAt(place))) {
                place++;
            }
            if (isWord("key")) {
                kind = KEY;
            } else if (isWord("lock")) {
                kind = LOCK;
            } else if (isWord("person")) {
                kind = PERSON;
            } else if (isWord("holds")) {
                kind = HOLDS;
            } else {
                value = rowAtHand();
                kind = value < 0 ? WRONG : ROW;
            }
        }

        private boolean isWord(String word) {
            if (place - start != word.length()) {
                return false;
            }
            for (int i = 0; i < word.length(); i++) {
                if (byteAt(start + i) != word.charAt(i)) {
                    return false;
                }
            }
            return true;
        }

        /** -1: the word is no row. */
        private int rowAtHand() {
            if (place - start != NOTCHES) {
                return -1;
            }
            int row = 0;
            for (int n = 0; n < NOTCHES; n++) {
                int letter = byteAt(start + n);
                if (letter == 'x') {
                    row |= 1 << n;
                } else if (letter != 'o') {
                    return -1;
                }
            }
            return row;
        }
    }

    /** What a text tells: keys, locks, people and who holds what. */
    static final class Home {
        private static final int ITEM = 0, ITEM_END = 1, ROW_OF_KEY = 2, ROW_OF_LOCK = 3, HOLDER = 4, HELD = 5;

        final Ring ring = new Ring();
        final int[] locks = new int[MOST_LOCKS];
        int lockCount;
        int people;
        /** While a text is heard: which token may stand next, and whom holds named. */
        private int wanted, holder;

        boolean hasLock(int l) {
            return l >= 0 && l < lockCount;
        }

        boolean hasPerson(int p) {
            return p >= 0 && p < people;
        }

        int everybody() {
            return (1 << people) - 1;
        }

        int allLocks() {
            return (1 << lockCount) - 1;
        }

        /** The keys, as bits, that the people of a group hold. */
        int heldBy(int group) {
            int keys = 0;
            for (int p = 0; p < people; p++) {
                if ((group >> p & 1) != 0) {
                    keys |= ring.keptBy(p);
                }
            }
            return keys;
        }

        void copyOf(Home other) {
            ring.copyOf(other.ring);
            for (int l = 0; l < MOST_LOCKS; l++) {
                locks[l] = other.locks[l];
            }
            lockCount = other.lockCount;
            people = other.people;
        }

        /** Becomes what the text tells: how many items; -10 less the fault. */
        int hear(Tale tale) {
            ring.empty();
            lockCount = 0;
            people = 0;
            wanted = ITEM;
            int items = 0;
            tale.readFirst();
            for (int token = 0; token < MOST_BYTES && tale.kind != Tale.END; token++) {
                if (!hearToken(tale.kind, tale.value)) {
                    return FAULT_BASE - tale.start;
                }
                items += tale.kind == Tale.STOP ? 1 : 0;
                tale.readNext();
            }
            return wanted == ITEM ? items : FAULT_BASE - tale.start;
        }

        /** False: this token can't stand here. */
        private boolean hearToken(int kind, int value) {
            switch (wanted) {
                case ITEM:
                    return hearItem(kind);
                case ROW_OF_KEY:
                    return kind == Tale.ROW && hearKeyRow(value);
                case ROW_OF_LOCK:
                    return kind == Tale.ROW && hearLockRow(value);
                case HOLDER:
                    return kind == Tale.NUMBER && hearHolder(value);
                case HELD:
                    return kind == Tale.NUMBER && hearHeld(value);
                default:
                    wanted = ITEM;
                    return kind == Tale.STOP;
            }
        }

        private boolean hearItem(int kind) {
            switch (kind) {
                case Tale.KEY:
                    wanted = ROW_OF_KEY;
                    return ring.size < MOST_KEYS;
                case Tale.LOCK:
                    wanted = ROW_OF_LOCK;
                    return lockCount < MOST_LOCKS;
                case Tale.PERSON:
                    wanted = ITEM_END;
                    return hearPerson();
                case Tale.HOLDS:
                    wanted = HOLDER;
                    return true;
                default:
                    return false;
            }
        }

        private boolean hearPerson() {
            if (people >= MOST_PEOPLE) {
                return false;
            }
            people++;
            return true;
        }

        private boolean hearKeyRow(int row) {
            wanted = ITEM_END;
            return ring.append(row);
        }

        private boolean hearLockRow(int row) {
            wanted = ITEM_END;
            if (lockCount < 0 || lockCount >= MOST_LOCKS) {
                return false;
            }
            locks[lockCount] = row;
            lockCount++;
            return true;
        }

        private boolean hearHolder(int p) {
            wanted = HELD;
            holder = p;
            return hasPerson(p);
        }

        private boolean hearHeld(int k) {
            wanted = ITEM_END;
            if (!ring.has(k) || ring.holders[k] != IN_BOX) {
                return false;
            }
            ring.holders[k] = holder;
            return true;
        }
    }

    /** All keys, and what was changed of them lately; an image is one, too. */
    static final class Ring {
        final int[] rows = new int[MOST_KEYS];
        final int[] holders = new int[MOST_KEYS];
        int size;
        /** How many changes may be undone; of each, from the oldest on, how it was before. */
        int known;
        private final int[] oldSizes = new int[MOST_UNDONE];
        private final int[] oldKeys = new int[MOST_UNDONE];
        private final int[] oldRows = new int[MOST_UNDONE];
        private final int[] oldHolders = new int[MOST_UNDONE];
        /** Of an image: whether there is one. */
        boolean kept;

        boolean has(int k) {
            return k >= 0 && k < size;
        }

        void empty() {
            size = 0;
            known = 0;
        }

        /** False: there are as many as can be. */
        boolean append(int row) {
            if (size < 0 || size >= MOST_KEYS) {
                return false;
            }
            rows[size] = row;
            holders[size] = IN_BOX;
            size++;
            return true;
        }

        /** The keys, as bits, that one holds, that are in the box, or that are lost. */
        int keptBy(int holder) {
            int keys = 0;
            for (int k = 0; k < size; k++) {
                if (holders[k] == holder) {
                    keys |= 1 << k;
                }
            }
            return keys;
        }

        /** All keys but lost ones, as bits. */
        int usable() {
            return ((1 << size) - 1) & ~keptBy(LOST);
        }

        int madeBy(int keys) {
            int row = 0;
            for (int k = 0; k < size; k++) {
                if ((keys >> k & 1) != 0) {
                    row ^= rows[k];
                }
            }
            return row;
        }

        /** To be called ahead of a change of a key (one that is to be cut, too). */
        void remember(int k) {
            if (k < 0 || k >= MOST_KEYS) {
                return;
            }
            if (known >= MOST_UNDONE) {
                forgetOldest();
            }
            oldSizes[known] = size;
            oldKeys[known] = k;
            oldRows[known] = rows[k];
            oldHolders[known] = holders[k];
            known++;
        }

        private void forgetOldest() {
            for (int i = 1; i < MOST_UNDONE; i++) {
                copyChange(i - 1, this, i);
            }
            known = MOST_UNDONE - 1;
        }

        private void copyChange(int to, Ring other, int from) {
            oldSizes[to] = other.oldSizes[from];
            oldKeys[to] = other.oldKeys[from];
            oldRows[to] = other.oldRows[from];
            oldHolders[to] = other.oldHolders[from];
        }

        void takeBack() {
            if (known <= 0) {
                return;
            }
            known--;
            int k = oldKeys[known];
            rows[k] = oldRows[known];
            holders[k] = oldHolders[known];
            size = oldSizes[known];
        }

        void copyOf(Ring other) {
            size = other.size;
            known = other.known;
            for (int k = 0; k < MOST_KEYS; k++) {
                rows[k] = other.rows[k];
                holders[k] = other.holders[k];
            }
            for (int i = 0; i < MOST_UNDONE; i++) {
                copyChange(i, other, i);
            }
        }
    }

    /** The rows that some keys make. */
    static final class Span {
        /** A row that is made whose last cut notch is this one; 0: none. */
        private final int[] byLast = new int[NOTCHES];

        void empty() {
            for (int n = 0; n < NOTCHES; n++) {
                byLast[n] = 0;
            }
        }

        /** What stays of a row; rows of which the same stays differ by a row that is made. */
        int rest(int row) {
            int left = row;
            for (int n = NOTCHES - 1; n >= 0; n--) {
                if ((left >> n & 1) != 0) {
                    left ^= byLast[n];
                }
            }
            return left;
        }

        boolean makes(int row) {
            return rest(row) == 0;
        }

        /** One key more; false: its row was made already. */
        boolean widen(int row) {
            int left = rest(row);
            for (int n = NOTCHES - 1; n >= 0; n--) {
                if ((left >> n & 1) != 0) {
                    byLast[n] = left;
                    return true;
                }
            }
            return false;
        }
    }
}
