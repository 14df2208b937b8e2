import java.util.NoSuchElementException;

/** Counts answers that are not as due; the tests share it. */
final class Check {
    private String test;
    private int looked;
    private int wrong;

    Check(String test) {
        this.test = test;
    }

    /** What comes from now on is told under this name. */
    void begin(String name) {
        test = name;
    }

    int looked() {
        return looked;
    }

    void due(String call, long got, long want) {
        looked++;
        if (got != want) {
            wrong++;
            System.out.println(test + ": " + call + " answered " + got + ", due is " + want);
        }
    }

    void due(String call, boolean got, boolean want) {
        due(call, got ? 1 : 0, want ? 1 : 0);
    }

    /** All the rows of answers at once, so that a test reads as a table. */
    void due(String call, int[] got, int... want) {
        due(call + ".length", got.length, want.length);
        for (int i = 0; i < Math.min(got.length, want.length); i++) {
            due(call + "[" + i + "]", got[i], want[i]);
        }
    }

    void throwsNoSuchElement(KwicStore x, int k, int what) {
        boolean thrown = false;
        try {
            x.line(k, what);
        } catch (NoSuchElementException e) {
            thrown = true;
        }
        due("line(" + k + ", " + what + ") throws", thrown, true);
    }

    void finish() {
        System.out.println(test + ": " + looked + " answers, " + wrong + " wrong");
        if (wrong != 0) {
            System.exit(1);
        }
    }

    /** The TAPE is this text alone. */
    static void tape(KwicStore x, String text) {
        x.end(0);
        for (int i = 0; i < text.length(); i += 20) {
            x.feed(four(text, i), four(text, i + 4), four(text, i + 8), four(text, i + 12), four(text, i + 16));
        }
    }

    private static int four(String text, int from) {
        int four = 0;
        for (int i = from; i < from + 4; i++) {
            four = four << 8 | (i < text.length() ? text.charAt(i) : 0);
        }
        return four;
    }

    static KwicStore store(String text) {
        KwicStore x = new KwicStore();
        tape(x, text);
        x.text(0);
        return x;
    }

    static int word(KwicStore x, String word) {
        tape(x, word);
        return x.word();
    }

    static int set(KwicStore x, int k, String signs) {
        tape(x, signs);
        return x.set(k);
    }

    static int put(KwicStore x, int k, String signs) {
        tape(x, signs);
        return x.put(k);
    }

    static int script(KwicStore x, String text) {
        tape(x, text);
        return x.text(1);
    }

    /** All LINES with ; between, read by the calls. */
    static String lines(KwicStore x) {
        StringBuilder lines = new StringBuilder();
        for (int k = 0; k < x.count(0); k++) {
            lines.append(k == 0 ? "" : ";");
            for (int place = 0; place < x.line(k, 1); place++) {
                lines.append((char) x.sign(k, place));
            }
        }
        return lines.toString();
    }

    void dueLines(String after, KwicStore x, String want) {
        looked++;
        String got = lines(x);
        if (!got.equals(want)) {
            wrong++;
            System.out.println(test + ": after " + after + " the lines are " + got + ", due is " + want);
        }
    }

    static int[] numbers(KwicStore x) {
        int[] numbers = new int[x.count(0)];
        for (int k = 0; k < numbers.length; k++) {
            numbers[k] = x.line(k, 0);
        }
        return numbers;
    }

    static int[] statuses(KwicStore x) {
        return new int[] {x.status(0), x.status(1), x.status(2), x.status(3)};
    }

    /** NUMBER and place of each HIT of the latest PAGE, in one row. */
    static int[] told(KwicStore x, int cursor) {
        int[] told = new int[2 * Math.max(0, x.cursor(cursor, 2))];
        for (int i = 0; i < told.length / 2; i++) {
            told[2 * i] = x.told(cursor, i, 0);
            told[2 * i + 1] = x.told(cursor, i, 1);
        }
        return told;
    }

    /** Sort, number, all SIGNS of the i-th of the LOG. */
    static int[] log(KwicStore x, int i) {
        return new int[] {x.log(i, 0), x.log(i, 1), x.log(i, 2)};
    }
}
