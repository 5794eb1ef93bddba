import java.lang.reflect.InvocationTargetException;
import java.lang.reflect.Method;
import java.util.ArrayList;
import java.util.Arrays;
import java.util.HashMap;
import java.util.List;
import java.util.Map;

/**
 * Every call, by numbers about each bound, in several states: the answer is laid against the Model's, and behind each
 * refused call and each call that only asks, all is as it was without the call.
 */
public final class RefusedTest {
    private static final int MIN = Integer.MIN_VALUE, MAX = Integer.MAX_VALUE;
    private static final long[] WIDE = {MIN, MIN + 1, -1000000, -10, -9, -5, -4, -3, -2, -1, 0, 1, 2, 3, 4, 5, 6, 7, 8,
        9, 10, 15, 16, 17, 31, 32, 63, 64, 65, 127, 128, 255, 256, 257, 511, 512, 513, 65536, MAX};
    private static final long[] NARROW = {MIN, -4, -2, -1, 0, 1, 2, 3, 4, 5, 6, 7, 8, 9, 15, 16, 255, 256, 511, 512,
        MAX};
    private static final long[] BYTES = {0, 59, -1, Long.MIN_VALUE, Long.MAX_VALUE};
    /** No more calls than these tell all of an object, see allOf. */
    private static final int LOOKS = 260;
    private static final List<String> ASKING = List.of("key", "lock", "laid", "alone", "fewest", "opens", "groups",
        "wish", "shut", "brings", "rob", "apart", "slips", "odds", "count", "trace");
    private static final List<String> CHANGING = List.of("type", "clear", "house", "cut", "give", "lose", "forge",
        "undo", "rate", "keep", "back");

    /** What was done with an object so far: words of calls, or a text in quotes that is typed. */
    private static final String[] STATES = {
        "",
        "'person;person;person;key xoooooooo;key oxooooooo;key xxooooooo;key ooxoooooo;lock xxooooooo;lock xxxoooooo;"
            + "lock ooooooooo;holds 0 0;holds 1 1;holds 2 3;' house; cut 5; give 4 1; forge 4 8; keep 0; lose 0;"
            + "cut 9; undo; lose 4; rate 3 1; 'person;key ooooooxxx;'",
        "'key xoooooooo;key oxooooooo;key ooxoooooo;key oooxooooo;key ooooxoooo;key oooooxooo;key ooooooxoo;'"
            + "'lock xxxxxxxoo;lock xoooooooo;lock oooooooox;lock xxxxxxxxx;lock ooooooooo;lock ooooooxoo;'"
            + "'person;person;person;person;holds 0 0;holds 1 1;holds 2 2;holds 3 3;' house; cut 128; give 7 0;"
            + "forge 6 8; forge 6 8; lose 5; undo; lose 5; undo; forge 0 1; forge 0 1; forge 0 2; forge 0 2;"
            + "forge 0 3; forge 0 3; give 4 3; keep 0; keep 1; rate 5 3; '" + " ".repeat(300) + "'",
        "'key xxooooooo;key xxooooooo;key xxooooooo;lock xxooooooo;person;' house; lose 0; lose 1; lose 2; keep 1;"
            + "'" + "?".repeat(293) + "'"};

    /** Of each state: keys, locks, people, in the box, lost, to be undone, bytes. */
    private static final int[][] COUNTS = {
        {0, 0, 0, 0, 0, 0, 0}, {5, 3, 3, 1, 2, 5, 21}, {8, 6, 4, 2, 0, 10, 300}, {3, 1, 1, 0, 3, 3, 293}};

    private static final Map<String, Method> METHODS = new HashMap<>();

    private final int state;
    private final List<Object[]> story;
    private final String unchanged;
    /** The Model in this state, for calls that only ask. */
    private final Model asked;

    private RefusedTest(int state) {
        this.state = state;
        this.story = storyOf(STATES[state]);
        this.unchanged = allOf(told(new NotchKeys()));
        this.asked = told(new Model());
    }

    public static void main(String[] args) {
        for (int state = 0; state < STATES.length; state++) {
            new RefusedTest(state).sweep();
        }
        Due.end();
    }

    /** The calls of a state, each its name and then its numbers. */
    private static List<Object[]> storyOf(String words) {
        List<Object[]> story = new ArrayList<>();
        String[] parts = words.split("'", -1);
        for (int i = 0; i < parts.length; i++) {
            if (i % 2 == 1) {
                addTyping(story, parts[i]);
                continue;
            }
            for (String call : parts[i].split(";")) {
                if (!call.isBlank()) {
                    story.add(callOf(call.trim().split(" ")));
                }
            }
        }
        return story;
    }

    private static void addTyping(List<Object[]> story, String text) {
        for (int from = 0; from < text.length(); from += 8) {
            int n = Math.min(8, text.length() - from);
            long v = 0;
            for (int i = 0; i < n; i++) {
                v = v << 8 | text.charAt(from + i);
            }
            story.add(new Object[] {"type", v, (long) n});
        }
    }

    private static Object[] callOf(String[] words) {
        Object[] call = new Object[words.length];
        call[0] = words[0];
        for (int i = 1; i < words.length; i++) {
            call[i] = Long.parseLong(words[i]);
        }
        return call;
    }

    private <T> T told(T target) {
        for (Object[] call : story) {
            answer(target, call);
        }
        return target;
    }

    private static long answer(Object target, Object... call) {
        Method method = METHODS.computeIfAbsent(target.getClass().getName() + "." + call[0],
            name -> methodOf(target.getClass(), call));
        Object[] numbers = new Object[call.length - 1];
        for (int i = 0; i < numbers.length; i++) {
            long number = (Long) call[i + 1];
            boolean isLong = method.getParameterTypes()[i] == long.class;
            numbers[i] = isLong ? (Object) number : (Object) (int) number;
        }
        try {
            return ((Number) method.invoke(target, numbers)).longValue();
        } catch (IllegalAccessException | InvocationTargetException e) {
            throw new IllegalStateException(String.valueOf(call[0]), e);
        }
    }

    private static Method methodOf(Class<?> kind, Object[] call) {
        for (Method method : kind.getDeclaredMethods()) {
            if (method.getName().equals(call[0]) && method.getParameterCount() == call.length - 1) {
                return method;
            }
        }
        throw new IllegalStateException("no such call: " + call[0]);
    }

    private void sweep() {
        NotchKeys x = told(new NotchKeys());
        for (int what = 0; what <= 6; what++) {
            Due.is("state " + state + ": count(" + what + ")", x.count(what), COUNTS[state][what]);
        }
        Due.is("state " + state + " takes 512 calls at most", story.size() + 1 + LOOKS <= 512 ? 1 : 0, 1);
        for (List<String> names : List.of(ASKING, CHANGING)) {
            for (String name : names) {
                for (Object[] call : callsOf(name)) {
                    one(call, names == ASKING);
                }
            }
        }
    }

    private static List<Object[]> callsOf(String name) {
        List<Object[]> calls = new ArrayList<>();
        for (Method method : NotchKeys.class.getDeclaredMethods()) {
            if (method.getName().equals(name)) {
                calls.add(new Object[] {name});
                for (Class<?> kind : method.getParameterTypes()) {
                    long[] numbers = method.getParameterCount() == 3 ? NARROW : kind == long.class ? BYTES : WIDE;
                    calls = withNumbers(calls, numbers);
                }
            }
        }
        return calls;
    }

    private static List<Object[]> withNumbers(List<Object[]> calls, long[] numbers) {
        List<Object[]> longer = new ArrayList<>();
        for (Object[] call : calls) {
            for (long number : numbers) {
                Object[] next = Arrays.copyOf(call, call.length + 1);
                next[call.length] = number;
                longer.add(next);
            }
        }
        return longer;
    }

    private void one(Object[] call, boolean asks) {
        NotchKeys x = told(new NotchKeys());
        String words = "state " + state + ": " + Arrays.toString(call);
        long got = answer(x, call);
        Due.is(words, got, answer(asks ? asked : told(new Model()), call));
        if (asks || isRefused((String) call[0], got)) {
            Due.is(words + " leaves all as it is", allOf(x).equals(unchanged) ? 1 : 0, 1);
        }
    }

    private static boolean isRefused(String name, long answer) {
        return switch (name) {
            case "rate" -> answer == -1000000;
            case "house" -> answer < 0;
            // Who had it (-4) is no refusal.
            case "give", "lose" -> answer < 0 && answer != -4;
            default -> answer < 0;
        };
    }

    /** All that can be seen of an object, what may be undone and the images too; it is used up by this. */
    private static String allOf(NotchKeys x) {
        StringBuilder seen = new StringBuilder();
        addSight(seen, x);
        addUndoing(seen, x);
        for (int image = 0; image < 2; image++) {
            seen.append(" back ").append(x.back(image));
            addUndoing(seen, x);
        }
        seen.append(" house ").append(x.house());
        addSight(seen, x);
        return seen.toString();
    }

    private static void addUndoing(StringBuilder seen, NotchKeys x) {
        addKeys(seen, x);
        for (int i = 0; i < 11; i++) {
            seen.append(" undo ").append(x.undo());
            // An object answers 512 calls: all keys can't be looked at behind each undo.
            if (i == 0 || i == 10) {
                addKeys(seen, x);
            }
        }
    }

    private static void addSight(StringBuilder seen, NotchKeys x) {
        addKeys(seen, x);
        for (int what = 0; what <= 6; what++) {
            seen.append(' ').append(x.count(what));
        }
        for (int l = 0; l < 6; l++) {
            seen.append(' ').append(x.lock(l));
        }
        seen.append(" trace ").append(x.trace());
    }

    private static void addKeys(StringBuilder seen, NotchKeys x) {
        int keys = x.count(0);
        for (int k = 0; k < keys; k++) {
            seen.append(' ').append(x.key(k, 0)).append(',').append(x.key(k, 1));
        }
    }
}
