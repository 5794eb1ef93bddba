import java.io.IOException;
import java.lang.reflect.Field;
import java.lang.reflect.Method;
import java.lang.reflect.Modifier;
import java.nio.file.Files;
import java.nio.file.Path;
import java.util.Arrays;
import java.util.TreeSet;
import java.util.regex.Matcher;
import java.util.regex.Pattern;

/** What of ../shared/LANGUAGE.md a look at the file and at the class can tell. */
public final class LanguageTest {
    private static final String FACE = "alone apart back brings clear count cut fewest forge give groups house keep key"
        + " laid lock lose odds opens rate rob shut slips trace type undo wish";
    private static final String[] FORBIDDEN = {"import", "package", "throw", "throws", "try", "catch", "finally",
        "synchronized", "assert", "volatile", "native", "System", "Object", "Thread", "extends"};
    private static final String[] FORBIDDEN_SIGNS = {"->", "::", "@", "Exact("};
    private static final String LIBRARY = "bitCount length charAt";
    private static final int MOST_LINES = 60, MOST_PARAMETERS = 7, MOST_CLASSES = 12, MOST_FIELDS = 20;

    private LanguageTest() {
    }

    public static void main(String[] args) throws IOException {
        String code = codeAlone(Files.readString(Path.of("src/main/java/NotchKeys.java")));
        for (String word : FORBIDDEN) {
            Due.is("'" + word + "' in the file", has(code, "\\b" + word + "\\b"), 0);
        }
        for (String sign : FORBIDDEN_SIGNS) {
            Due.is("'" + sign + "' in the file", code.contains(sign) ? 1 : 0, 0);
        }
        Due.is("signs above 127", has(code, "[^\\x00-\\x7f]"), 0);
        face();
        library(code);
        lengths(code);
        Due.is("not too many classes", NotchKeys.class.getDeclaredClasses().length < MOST_CLASSES ? 1 : 0, 1);
        sizes(NotchKeys.class);
        for (Class<?> inner : NotchKeys.class.getDeclaredClasses()) {
            Due.is(inner + " is static", Modifier.isStatic(inner.getModifiers()) ? 1 : 0, 1);
            Due.is(inner + " is public", Modifier.isPublic(inner.getModifiers()) ? 1 : 0, 0);
            names(inner);
            sizes(inner);
        }
        Due.end();
    }

    private static int has(String code, String pattern) {
        return Pattern.compile(pattern).matcher(code).find() ? 1 : 0;
    }

    private static String codeAlone(String file) {
        return file.replaceAll("(?s)/\\*.*?\\*/", " ").replaceAll("//[^\n]*", " ").replaceAll("\"[^\"\n]*\"", "\"\"");
    }

    private static void face() {
        TreeSet<String> found = new TreeSet<>();
        for (Method method : NotchKeys.class.getDeclaredMethods()) {
            if (Modifier.isPublic(method.getModifiers())) {
                found.add(method.getName());
            } else {
                Due.is(method + " is private", Modifier.isPrivate(method.getModifiers()) ? 1 : 0, 1);
                notOfTheFace(method);
            }
        }
        Due.is("the face " + found, found.equals(new TreeSet<>(Arrays.asList(FACE.split(" ")))) ? 1 : 0, 1);
        int constants = 0;
        for (Field field : NotchKeys.class.getDeclaredFields()) {
            boolean open = !Modifier.isPrivate(field.getModifiers());
            constants += open ? 1 : 0;
            boolean still = Modifier.isFinal(field.getModifiers());
            Due.is(field + " is final if it is static or public", still || !open
                && !Modifier.isStatic(field.getModifiers()) ? 1 : 0, 1);
        }
        Due.is("public constants", constants, 5);
    }

    private static void names(Class<?> inner) {
        for (Method method : inner.getDeclaredMethods()) {
            notOfTheFace(method);
        }
    }

    private static void notOfTheFace(Method method) {
        Due.is(method + " bears a public name", Arrays.asList(FACE.split(" ")).contains(method.getName()) ? 1 : 0, 0);
    }

    /** Every method that is called is one of the file's own or of the few of the library that it may use. */
    private static void library(String code) {
        TreeSet<String> known = new TreeSet<>(Arrays.asList(LIBRARY.split(" ")));
        known.addAll(Arrays.asList("if", "for", "while", "switch", "return"));
        addNames(known, NotchKeys.class);
        for (Class<?> inner : NotchKeys.class.getDeclaredClasses()) {
            addNames(known, inner);
        }
        Matcher called = Pattern.compile("\\b(\\w+)\\s*\\(").matcher(code);
        while (called.find()) {
            Due.is("call of " + called.group(1), known.contains(called.group(1)) ? 1 : 0, 1);
        }
    }

    private static void addNames(TreeSet<String> known, Class<?> from) {
        known.add(from.getSimpleName());
        for (Method method : from.getDeclaredMethods()) {
            known.add(method.getName());
        }
    }

    /** A method's lines are those from its head to the brace that stands as far in as the head does. */
    private static void lengths(String code) {
        Pattern method = Pattern.compile("(?m)^( +)[^\n;=]*\\b(\\w+)\\([^\n;]*\\) \\{\n((?:\\1 +.*\n|\\s*\n)*)\\1\\}");
        Matcher found = method.matcher(code);
        int methods = 0;
        while (found.find()) {
            long lines = found.group(3).lines().count();
            Due.is(found.group(2) + " is short (" + lines + " lines)", lines <= MOST_LINES ? 1 : 0, 1);
            methods++;
        }
        int declared = NotchKeys.class.getDeclaredMethods().length;
        Due.is("methods were found", methods > declared ? 1 : 0, 1);
    }

    private static void sizes(Class<?> one) {
        for (Method method : one.getDeclaredMethods()) {
            Due.is(method + " takes not too many", method.getParameterCount() <= MOST_PARAMETERS ? 1 : 0, 1);
        }
        int fields = 0;
        for (Field field : one.getDeclaredFields()) {
            fields += Modifier.isStatic(field.getModifiers()) ? 0 : 1;
        }
        Due.is(one + " has not too many fields", fields <= MOST_FIELDS ? 1 : 0, 1);
    }
}
