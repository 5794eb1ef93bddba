/** What the tests share: answers that are due, counted where they are not given, and texts. */
final class Due {
    private static int wrong = 0;
    private static int asked = 0;
    private static String heading = "";

    private Due() {
    }

    static void is(String call, long got, long want) {
        asked++;
        if (got != want) {
            wrong++;
            System.out.println(heading + call + " answered " + got + ", due is " + want);
        }
    }

    /** What is printed ahead of the wrong answers that follow. */
    static void under(String words) {
        heading = words;
    }

    static void end() {
        System.out.println(asked + " answers, " + wrong + " not as due");
        if (wrong != 0 || asked == 0) {
            System.exit(1);
        }
    }

    /** Types a text of signs 0 .. 255, eight bytes a call. */
    static void typeText(NotchKeys x, String text) {
        for (int from = 0; from < text.length(); from += 8) {
            int n = Math.min(8, text.length() - from);
            long v = 0;
            for (int i = 0; i < n; i++) {
                v = v << 8 | text.charAt(from + i);
            }
            x.type(v, n);
        }
    }

    static int tell(NotchKeys x, String text) {
        x.clear();
        typeText(x, text);
        return x.house();
    }

    /** A new object that was told a text, which must hold. */
    static NotchKeys told(String text) {
        NotchKeys x = new NotchKeys();
        if (tell(x, text) < 0) {
            throw new IllegalStateException("not a house: " + text);
        }
        return x;
    }
}
