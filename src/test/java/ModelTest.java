/** Long runs of calls that a counter of its own draws: each answer is laid against the Model's. */
public final class ModelTest {
    private static final int RUNS = 400, CALLS = 512;
    private static final String[] ROWS = {"xoooooooo", "oxooooooo", "xxooooooo", "ooxoooooo", "ooooxoooo", "xxxxxxxxx"};
    private static final String[] ODD = {";", " ", "key", "person", "lock;", "holds 0 0;", "holds", "00", "100", "0",
        "x", "K", "\u00ff", "\t", "xoxoxoxox", "xoxoxoxoxo", "{", "key ooooooooo", "7", "9;"};
    private static final int[] NUMBERS = {-1, -2, -3, -4, -5, 8, 9, 16, 255, 256, 511, 512, 63, 64,
        Integer.MAX_VALUE, Integer.MIN_VALUE};

    private long seed;

    private ModelTest(long seed) {
        this.seed = seed;
    }

    public static void main(String[] args) {
        for (int run = 0; run < RUNS; run++) {
            new ModelTest(run * 7919L + 17).run(run);
        }
        Due.end();
    }

    private int draw(int bound) {
        seed = seed * 6364136223846793005L + 1442695040888963407L;
        return (int) ((seed >>> 33) % bound);
    }

    /** Mostly below a bound, sometimes anything. */
    private int number(int bound) {
        return draw(16) == 0 ? NUMBERS[draw(NUMBERS.length)] : draw(bound);
    }

    private int row() {
        int some = draw(4);
        return some == 0 ? number(512) : some == 1 ? draw(16) : 1 << draw(9);
    }

    private String drawText() {
        StringBuilder text = new StringBuilder();
        int keys = 0;
        int people = 0;
        int held = 0;
        int items = draw(20);
        for (int i = 0; i < items; i++) {
            if (draw(60) == 0) {
                text.append(ODD[draw(ODD.length)]);
            }
            text.append(" ".repeat(draw(8) == 0 ? draw(3) : 0));
            switch (draw(5)) {
                case 0, 1 -> {
                    text.append("key ").append(drawRow());
                    keys++;
                }
                case 2 -> text.append("lock ").append(drawRow());
                case 3 -> {
                    text.append("person");
                    people++;
                }
                default -> {
                    if (held < keys && people > 0 || draw(9) == 0) {
                        int p = people > 0 ? draw(people) : 0;
                        text.append("holds ").append(p).append(' ').append(draw(30) == 0 ? draw(9) : held);
                        held++;
                    } else {
                        text.append("person");
                        people++;
                    }
                }
            }
            text.append(draw(80) == 0 ? "" : ";");
        }
        return text.substring(0, draw(30) == 0 ? draw(text.length() + 1) : text.length());
    }

    private String drawRow() {
        if (draw(2) == 0) {
            return ROWS[draw(ROWS.length)];
        }
        StringBuilder row = new StringBuilder();
        for (int n = 0; n < 9; n++) {
            row.append(draw(2) == 0 ? 'x' : 'o');
        }
        return row.toString();
    }

    private void run(int run) {
        NotchKeys x = new NotchKeys();
        Model m = new Model();
        int calls = 0;
        while (calls < CALLS) {
            if (calls == 0 || draw(60) == 0) {
                calls += tell(run, x, m);
            }
            if (draw(3) == 0) {
                change(run + ": " + calls, x, m);
            } else {
                ask(run + ": " + calls, x, m);
            }
            calls++;
        }
    }

    private int tell(int run, NotchKeys x, Model m) {
        String text = drawText();
        int calls = 1;
        for (int from = 0; from < text.length(); ) {
            int n = Math.min(1 + draw(8), text.length() - from);
            long v = draw(1 << 20);
            for (int i = 0; i < n; i++) {
                v = v << 8 | text.charAt(from + i);
            }
            Due.is(run + " type(" + v + ", " + n + ")", x.type(v, n), m.type(v, n));
            from += n;
            calls++;
        }
        int want = m.house();
        Due.is(run + " house() of '" + text + "'", x.house(), want);
        if (want < 0) {
            Due.is(run + " clear()", x.clear(), m.clear());
        }
        return calls;
    }

    private void change(String run, NotchKeys x, Model m) {
        int a;
        int b;
        switch (draw(9)) {
            case 0, 1 -> {
                a = row();
                Due.is(run + " cut(" + a + ")", x.cut(a), m.cut(a));
            }
            case 2, 3 -> {
                a = number(8);
                b = draw(4) == 0 ? -4 : number(4);
                Due.is(run + " give(" + a + ", " + b + ")", x.give(a, b), m.give(a, b));
            }
            case 4 -> {
                a = number(8);
                Due.is(run + " lose(" + a + ")", x.lose(a), m.lose(a));
            }
            case 5 -> {
                a = number(8);
                b = number(9);
                Due.is(run + " forge(" + a + ", " + b + ")", x.forge(a, b), m.forge(a, b));
            }
            case 6 -> {
                a = number(2);
                Due.is(run + " keep(" + a + ")", x.keep(a), m.keep(a));
            }
            case 7 -> {
                a = number(2);
                Due.is(run + " back(" + a + ")", x.back(a), m.back(a));
            }
            default -> {
                for (int i = draw(6); i >= 0; i--) {
                    Due.is(run + " undo()", x.undo(), m.undo());
                }
            }
        }
    }

    private void ask(String run, NotchKeys x, Model m) {
        int a = number(8);
        int b = number(8);
        int c = draw(3) - 1;
        switch (draw(19)) {
            case 0 -> Due.is(run + " key(" + a + ", " + c + ")", x.key(a, c), m.key(a, c));
            case 1 -> Due.is(run + " lock(" + a + ")", x.lock(a), m.lock(a));
            case 2 -> {
                a = number(256);
                Due.is(run + " laid(" + a + ")", x.laid(a), m.laid(a));
            }
            case 3 -> Due.is(run + " alone()", x.alone(), m.alone());
            case 4 -> {
                a = row();
                b = number(9);
                Due.is(run + " fewest(" + a + ", " + b + ", " + c + ")", x.fewest(a, b, c), m.fewest(a, b, c));
            }
            case 5 -> {
                a = number(16);
                Due.is(run + " opens(" + a + ")", x.opens(a), m.opens(a));
            }
            case 6 -> {
                b = draw(6) - 2;
                Due.is(run + " groups(" + a + ", " + b + ")", x.groups(a, b), m.groups(a, b));
            }
            case 7, 8, 9 -> {
                a = number(4);
                b = number(16) | (draw(4) == 0 ? 0 : 1 << a);
                c = number(6);
                Due.is(run + " wish(" + a + ", " + b + ", " + c + ")", x.wish(a, b, c), m.wish(a, b, c));
            }
            case 10 -> Due.is(run + " shut(" + a + ")", x.shut(a), m.shut(a));
            case 11 -> Due.is(run + " brings(" + c + ")", x.brings(c), m.brings(c));
            case 12 -> {
                a = number(64);
                Due.is(run + " rob(" + a + ")", x.rob(a), m.rob(a));
            }
            case 13 -> Due.is(run + " apart()", x.apart(), m.apart());
            case 14 -> {
                a = number(256);
                c = draw(5) - 2;
                Due.is(run + " slips(" + a + ", " + b + ", " + c + ")", x.slips(a, b, c), m.slips(a, b, c));
            }
            case 15 -> {
                a = number(9);
                b = row();
                Due.is(run + " odds(" + a + ", " + b + ", " + c + ")", x.odds(a, b, c), m.odds(a, b, c));
            }
            case 16 -> {
                a = number(6);
                b = number(4);
                Due.is(run + " rate(" + a + ", " + b + ")", x.rate(a, b), m.rate(a, b));
            }
            case 17 -> Due.is(run + " count(" + b + ")", x.count(b), m.count(b));
            default -> Due.is(run + " trace()", x.trace(), m.trace());
        }
    }
}
