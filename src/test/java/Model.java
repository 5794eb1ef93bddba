import java.util.ArrayList;
import java.util.List;
import java.util.regex.Matcher;
import java.util.regex.Pattern;

/** The document told once more, by trying everything: what NotchKeys is laid against. */
final class Model {
    private static final int BAD = -1, STATE = -2, FULL = -3, NONE = -9, NO = -1000000;
    private static final int LOST = -3, BOX = -4;
    private static final Pattern TOKEN = Pattern.compile("[a-z]+|[0-9]+|;");

    /** A key as it is; never changed once made. */
    private record Key(int row, int holder) {
    }

    /** All keys and what may be undone: lists that are never changed once made. */
    private record Now(List<Key> keys, List<List<Key>> before) {
    }

    private String text = "";
    private Now now = new Now(List.of(), List.of());
    private List<Integer> locks = List.of();
    private int people;
    private final Now[] images = new Now[2];
    private long traced;

    int type(long v, int n) {
        if (n < 1 || n > 8) {
            return BAD;
        }
        if (text.length() + n > 300) {
            return FULL;
        }
        for (int shift = 8 * (n - 1); shift >= 0; shift -= 8) {
            text += (char) (v >>> shift & 255);
        }
        return text.length();
    }

    int clear() {
        int n = text.length();
        text = "";
        return n;
    }

    int house() {
        List<Key> keys = new ArrayList<>();
        List<Integer> told = new ArrayList<>();
        int persons = 0;
        int items = 0;
        List<String> item = new ArrayList<>();
        Matcher tokens = TOKEN.matcher(text);
        int at = 0;
        while (true) {
            while (at < text.length() && text.charAt(at) == ' ') {
                at++;
            }
            if (at == text.length()) {
                break;
            }
            if (!tokens.region(at, text.length()).lookingAt()) {
                return -10 - at;
            }
            item.add(tokens.group());
            if (!mayStand(item, keys, told.size(), persons)) {
                return -10 - at;
            }
            at = tokens.end();
            if (tokens.group().equals(";")) {
                items++;
                switch (item.get(0)) {
                    case "key" -> keys.add(new Key(rowOf(item.get(1)), BOX));
                    case "lock" -> told.add(rowOf(item.get(1)));
                    case "person" -> persons++;
                    default -> {
                        int k = Integer.parseInt(item.get(2));
                        keys.set(k, new Key(keys.get(k).row, Integer.parseInt(item.get(1))));
                    }
                }
                item.clear();
            }
        }
        if (!item.isEmpty()) {
            return -10 - text.length();
        }
        now = new Now(List.copyOf(keys), List.of());
        locks = List.copyOf(told);
        people = persons;
        images[0] = null;
        images[1] = null;
        text = "";
        return items;
    }

    /** Whether the last token of an item that has begun can stand there. */
    private static boolean mayStand(List<String> item, List<Key> keys, int told, int persons) {
        String last = item.get(item.size() - 1);
        if (item.size() == 1) {
            return switch (last) {
                case "key" -> keys.size() < 8;
                case "lock" -> told < 6;
                case "person" -> persons < 4;
                case "holds" -> true;
                default -> false;
            };
        }
        String first = item.get(0);
        int length = first.equals("person") ? 2 : first.equals("holds") ? 4 : 3;
        if (item.size() == length) {
            return last.equals(";");
        }
        if (!first.equals("holds")) {
            return last.matches("[xo]{9}");
        }
        if (!last.matches("0|[1-9][0-9]?")) {
            return false;
        }
        int number = Integer.parseInt(last);
        return item.size() == 2 ? number < persons : number < keys.size() && keys.get(number).holder == BOX;
    }

    private static int rowOf(String word) {
        int row = 0;
        for (int n = 0; n < 9; n++) {
            row += word.charAt(n) == 'x' ? 1 << n : 0;
        }
        return row;
    }

    private int size() {
        return now.keys.size();
    }

    private boolean isKey(int k) {
        return k >= 0 && k < size();
    }

    private boolean isLock(int l) {
        return l >= 0 && l < locks.size();
    }

    private boolean isPerson(int p) {
        return p >= 0 && p < people;
    }

    private static boolean isRow(int row) {
        return row >= 0 && row <= 511;
    }

    private static boolean isWhat(int what) {
        return what == 0 || what == 1;
    }

    int key(int k, int what) {
        if (!isKey(k) || !isWhat(what)) {
            return BAD;
        }
        return what == 0 ? now.keys.get(k).row : now.keys.get(k).holder;
    }

    int lock(int l) {
        return isLock(l) ? locks.get(l) : BAD;
    }

    private boolean isSetOfKeys(int keys) {
        if (keys < 0 || keys >= 1 << size()) {
            return false;
        }
        for (int k = 0; k < size(); k++) {
            if ((keys >> k) % 2 == 1 && now.keys.get(k).holder == LOST) {
                return false;
            }
        }
        return true;
    }

    private int rowBy(int keys) {
        int row = 0;
        for (int notch = 0; notch < 9; notch++) {
            int cuts = 0;
            for (int k = 0; k < size(); k++) {
                if ((keys >> k) % 2 == 1) {
                    cuts += now.keys.get(k).row >> notch & 1;
                }
            }
            row += cuts % 2 << notch;
        }
        return row;
    }

    int laid(int keys) {
        return isSetOfKeys(keys) ? rowBy(keys) : BAD;
    }

    private void change(List<Key> keys) {
        List<List<Key>> before = new ArrayList<>(now.before);
        before.add(now.keys);
        if (before.size() > 10) {
            before.remove(0);
        }
        now = new Now(keys, before);
    }

    private void changeKey(int k, Key to) {
        List<Key> keys = new ArrayList<>(now.keys);
        keys.set(k, to);
        change(keys);
    }

    int cut(int row) {
        if (!isRow(row)) {
            return BAD;
        }
        if (size() == 8) {
            return FULL;
        }
        List<Key> keys = new ArrayList<>(now.keys);
        keys.add(new Key(row, BOX));
        change(keys);
        return size() - 1;
    }

    int give(int k, int p) {
        if (!isKey(k) || (!isPerson(p) && p != BOX)) {
            return BAD;
        }
        Key key = now.keys.get(k);
        if (key.holder == LOST || key.holder == p) {
            return STATE;
        }
        changeKey(k, new Key(key.row, p));
        return key.holder;
    }

    int lose(int k) {
        if (!isKey(k)) {
            return BAD;
        }
        Key key = now.keys.get(k);
        if (key.holder == LOST) {
            return STATE;
        }
        changeKey(k, new Key(key.row, LOST));
        return key.holder;
    }

    int forge(int k, int notch) {
        if (!isKey(k) || notch < 0 || notch > 8) {
            return BAD;
        }
        Key key = now.keys.get(k);
        if (key.holder == LOST) {
            return STATE;
        }
        changeKey(k, new Key(key.row ^ 1 << notch, key.holder));
        return key(k, 0);
    }

    int undo() {
        int known = now.before.size();
        if (known == 0) {
            return STATE;
        }
        now = new Now(now.before.get(known - 1), List.copyOf(now.before.subList(0, known - 1)));
        return known - 1;
    }

    /** All sets of the rows of some keys: by bits, what each makes; -1 where it has a key that is not among them. */
    private int[] rowsOfSets(int among) {
        int[] made = new int[1 << size()];
        for (int set = 0; set < made.length; set++) {
            made[set] = (set & among) == set && isSetOfKeys(set) ? rowBy(set) : -1;
        }
        return made;
    }

    private static boolean isIn(int row, int[] made) {
        for (int m : made) {
            if (m == row) {
                return true;
            }
        }
        return false;
    }

    private int allKeys() {
        return (1 << size()) - 1;
    }

    private int keysOf(int group) {
        int keys = 0;
        for (int k = 0; k < size(); k++) {
            int p = now.keys.get(k).holder;
            if (p >= 0 && (group >> p) % 2 == 1) {
                keys += 1 << k;
            }
        }
        return keys;
    }

    private int boxed() {
        int keys = 0;
        for (int k = 0; k < size(); k++) {
            keys += now.keys.get(k).holder == BOX ? 1 << k : 0;
        }
        return keys;
    }

    int alone() {
        int found = 0;
        for (int k = 0; k < size(); k++) {
            if (isSetOfKeys(1 << k) && !isIn(now.keys.get(k).row, rowsOfSets((1 << k) - 1))) {
                found += 1 << k;
            }
        }
        return found;
    }

    int fewest(int row, int limit, int what) {
        if (!isRow(row) || limit < 0 || limit > 8 || !isWhat(what)) {
            return BAD;
        }
        int[] made = rowsOfSets(allKeys());
        for (int n = 0; n <= limit; n++) {
            for (int set = 0; set < made.length; set++) {
                if (Integer.bitCount(set) == n && made[set] == row) {
                    return what == 0 ? n : set;
                }
            }
        }
        return NONE;
    }

    private int locksOf(int[] made) {
        int opened = 0;
        for (int l = 0; l < locks.size(); l++) {
            opened += isIn(locks.get(l), made) ? 1 << l : 0;
        }
        return opened;
    }

    private boolean isGroup(int group) {
        return group >= 0 && group < 1 << people;
    }

    int opens(int group) {
        return isGroup(group) ? locksOf(rowsOfSets(keysOf(group))) : BAD;
    }

    int groups(int l, int i) {
        if (!isLock(l) || i < -1) {
            return BAD;
        }
        List<Integer> least = new ArrayList<>();
        for (int group = 0; group < 1 << people; group++) {
            boolean is = (opens(group) >> l) % 2 == 1;
            for (int part = 0; part < group; part++) {
                is &= (part & group) != part || (opens(part) >> l) % 2 == 0;
            }
            if (is) {
                least.add(group);
            }
        }
        return i == -1 ? least.size() : i < least.size() ? least.get(i) : -5;
    }

    int wish(int p, int group, int l) {
        if (!isPerson(p) || !isGroup(group) || !isLock(l) || (group >> p) % 2 == 0) {
            return BAD;
        }
        int[][] made = new int[1 << people][];
        for (int g = 0; g < made.length; g++) {
            made[g] = rowsOfSets(keysOf(g));
        }
        for (int row = 0; row < 512; row++) {
            boolean is = true;
            for (int g = 0; g < made.length && is; g++) {
                boolean opened = isIn(locks.get(l), made[g])
                    || (g >> p) % 2 == 1 && isIn(locks.get(l) ^ row, made[g]);
                boolean hasAll = (g & group) == group;
                is = g == group ? opened : hasAll || !opened;
            }
            if (is) {
                return row;
            }
        }
        return NONE;
    }

    int shut(int k) {
        if (!isKey(k) || now.keys.get(k).holder == LOST) {
            return BAD;
        }
        return locksOf(rowsOfSets(allKeys())) - locksOf(rowsOfSets(allKeys() - (1 << k)));
    }

    int brings(int what) {
        if (!isWhat(what)) {
            return BAD;
        }
        int[] made = rowsOfSets(allKeys());
        int best = -1;
        int most = -1;
        for (int row = 0; row < 512; row++) {
            int opened = 0;
            for (int lock : locks) {
                opened += isIn(lock, made) || isIn(lock ^ row, made) ? 1 : 0;
            }
            if (opened > most) {
                most = opened;
                best = row;
            }
        }
        return what == 0 ? best : most;
    }

    int rob(int wanted) {
        if (wanted < 0 || wanted >= 1 << locks.size()) {
            return BAD;
        }
        for (int n = 0; n <= people; n++) {
            for (int group = 0; group < 1 << people; group++) {
                if (Integer.bitCount(group) == n
                    && (locksOf(rowsOfSets(keysOf(group) + boxed())) & wanted) == wanted) {
                    return group;
                }
            }
        }
        return NONE;
    }

    int apart() {
        int least = NONE;
        for (int row : rowsOfSets(allKeys())) {
            if (row > 0 && (least == NONE || Integer.bitCount(row) < least)) {
                least = Integer.bitCount(row);
            }
        }
        return least;
    }

    int slips(int keys, int l, int i) {
        if (!isSetOfKeys(keys) || !isLock(l) || i < -1) {
            return BAD;
        }
        List<Integer> found = new ArrayList<>();
        for (int k = 0; k < size(); k++) {
            for (int notch = 0; notch < 9; notch++) {
                if ((keys >> k) % 2 == 1 && (rowBy(keys) ^ 1 << notch) == locks.get(l)) {
                    found.add(10 * k + notch);
                }
            }
        }
        return i == -1 ? found.size() : i < found.size() ? found.get(i) : -5;
    }

    int odds(int k, int row, int what) {
        if (k < 0 || k > 8 || !isRow(row) || !isWhat(what)) {
            return BAD;
        }
        int upper = 0;
        int lower = 0;
        int[] made = rowsOfSets(allKeys());
        for (int set = 0; set < made.length; set++) {
            if (Integer.bitCount(set) == k && made[set] >= 0) {
                lower++;
                upper += made[set] == row ? 1 : 0;
            }
        }
        int a = upper;
        int b = lower == 0 ? 1 : lower;
        lower = b;
        while (a != 0) {
            int c = b % a;
            b = a;
            a = c;
        }
        return (what == 0 ? upper : lower) / b;
    }

    int rate(int kind, int p) {
        if (kind < 0 || kind > 5 || !isPerson(p)) {
            return NO;
        }
        int held = Integer.bitCount(keysOf(1 << p));
        int opened = Integer.bitCount(opens(1 << p));
        int cuts = Integer.bitCount(rowBy(keysOf(1 << p)));
        traced += new int[] {1, 11, 101, 1011, 10101, 100001}[kind];
        return switch (kind) {
            case 0 -> held;
            case 1 -> held + opened;
            case 2 -> held - cuts;
            case 3 -> 2 * (held + opened);
            case 4 -> held - cuts + p;
            default -> held + Integer.bitCount(boxed());
        };
    }

    int keep(int image) {
        if (!isWhat(image)) {
            return BAD;
        }
        images[image] = now;
        return size();
    }

    int back(int image) {
        if (!isWhat(image)) {
            return BAD;
        }
        if (images[image] == null) {
            return STATE;
        }
        now = images[image];
        return size();
    }

    int count(int what) {
        int lost = 0;
        for (Key key : now.keys) {
            lost += key.holder == LOST ? 1 : 0;
        }
        return switch (what) {
            case 0 -> size();
            case 1 -> locks.size();
            case 2 -> people;
            case 3 -> Integer.bitCount(boxed());
            case 4 -> lost;
            case 5 -> now.before.size();
            case 6 -> text.length();
            default -> BAD;
        };
    }

    long trace() {
        return traced;
    }
}
