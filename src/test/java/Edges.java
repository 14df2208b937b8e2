import java.util.List;
import java.util.function.Consumer;
import java.util.function.ToLongFunction;

/** What the tests of edges share. Each of their methods that is not private is a test, named after its promise. */
class Edges {
    static final int NONE = KwicStore.NONE;
    static final int HIDDEN = KwicStore.HIDDEN;
    static final int MIN = Integer.MIN_VALUE;
    static final int MAX = Integer.MAX_VALUE;
    static final String TWENTY = "abcdefghijklmnopqrst";
    static final String EIGHT_LINES = "a;b;c;d;e;f;g;h";
    static final Check CHECK = new Check("EdgesTest");

    static KwicStore made(Consumer<KwicStore> recipe) {
        KwicStore x = new KwicStore();
        recipe.accept(x);
        return x;
    }

    /** An object without a STORE that has all that it can have without one. */
    static void withoutStore(KwicStore x) {
        Check.script(x, "d0");
        x.take(0);
        Check.tape(x, "a_b");
    }

    /** One with something of everything, so that it shows if a call changes what it should not. */
    static void rich(KwicStore x) {
        Check.tape(x, "abab;ba_b;ab");
        x.text(0);
        Check.script(x, "r0:ab_;d1;p0");
        Check.word(x, "ab");
        x.lay(0, 2);
        x.page(0);
        Check.put(x, 1, "aab");
        x.image();
        x.swap(0, 3);
        x.take(9);
        Check.tape(x, "a_b");
    }

    /** Ten LINES, one of them of twenty SIGNS, with a WORD in hand and no CURSOR. */
    static void tenLines(KwicStore x) {
        Check.tape(x, EIGHT_LINES);
        x.text(0);
        Check.put(x, 8, TWENTY);
        Check.put(x, 9, "jj");
        Check.word(x, "a");
        Check.tape(x, "k");
    }

    /** Ten LINES of twenty SIGNS each, all of them a. */
    static void full(KwicStore x) {
        String line = "a".repeat(20);
        Check.tape(x, String.join(";", java.util.Collections.nCopies(8, line)));
        x.text(0);
        Check.put(x, 8, line);
        Check.put(x, 9, line);
        Check.word(x, "a");
    }

    static Consumer<KwicStore> store(String text) {
        return x -> {
            Check.tape(x, text);
            x.text(0);
        };
    }

    static Consumer<KwicStore> storeWithWord(String text, String word) {
        return store(text).andThen(x -> Check.word(x, word));
    }

    /** Its answer is this, and nothing at all has changed. */
    static void asks(String call, Consumer<KwicStore> recipe, ToLongFunction<KwicStore> asked, long answer) {
        changesOnly(NONE, call, recipe, asked, answer);
    }

    /** It is refused under this STATUS, and nothing else has changed. */
    static void refused(int status, String call, Consumer<KwicStore> recipe, ToLongFunction<KwicStore> asked) {
        changesOnly(status, call, recipe, asked, NONE);
    }

    private static void changesOnly(int status, String call, Consumer<KwicStore> recipe,
            ToLongFunction<KwicStore> asked, long answer) {
        KwicStore x = made(recipe);
        int[] want = Check.statuses(x);
        if (status != NONE) {
            want[status]++;
        }
        CHECK.due(call, asked.applyAsLong(x), answer);
        CHECK.due(call + ": STATUS", Check.statuses(x), want);
        List<String> before = Sight.of(recipe);
        List<String> after = Sight.of(recipe.andThen(y -> asked.applyAsLong(y)));
        for (int i = 0; i < Math.min(before.size(), after.size()); i++) {
            if (!before.get(i).equals(after.get(i))) {
                CHECK.due(call + ": " + before.get(i) + " has become " + after.get(i), 1, 0);
                return;
            }
        }
        CHECK.due(call + ": rows that can be read", after.size(), before.size());
    }

    /** The FAULT of a TAPE that is this text alone. */
    static void fault(int sort, String text, int want) {
        KwicStore x = new KwicStore();
        Check.tape(x, text);
        CHECK.due("the TAPE '" + text + "'", x.count(2), text.length());
        CHECK.due("fault(" + sort + ") of '" + text + "'", x.fault(sort), want);
    }

    /** LINE and place of all HITS, in one row. */
    static int[] hits(KwicStore x) {
        int[] hits = new int[2 * Math.max(0, x.rule(2))];
        for (int i = 0; i < hits.length / 2; i++) {
            hits[2 * i] = x.hit(i, 0);
            hits[2 * i + 1] = x.hit(i, 1);
        }
        return hits;
    }

    static String spelled(KwicStore x, int k) {
        StringBuilder spelled = new StringBuilder();
        for (int i = 0; i < x.spell(k, NONE); i++) {
            spelled.append((char) x.spell(k, i));
        }
        return spelled.toString();
    }
}
