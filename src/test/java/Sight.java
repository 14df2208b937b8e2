import java.util.ArrayList;
import java.util.List;
import java.util.function.Consumer;
import java.util.function.ToLongFunction;

/**
 * All that can be read of an object, STATUS apart, as rows of text: what every asking call answers, and what is
 * there to be read behind each call that goes on from it (what can be UNDONE, the IMAGE, the next PAGES, the TAPE).
 *
 * It is read of as many objects as it takes, all made by the same recipe, since one is good for 512 calls alone.
 */
final class Sight {
    private static final int CALLS_OF_ONE = 300;

    private final Consumer<KwicStore> recipe;
    private final List<String> rows = new ArrayList<>();
    private KwicStore x;
    private int calls = CALLS_OF_ONE;

    private Sight(Consumer<KwicStore> recipe) {
        this.recipe = recipe;
    }

    static List<String> of(Consumer<KwicStore> recipe) {
        Sight sight = new Sight(recipe);
        sight.readState();
        sight.readPlaces();
        sight.readHits();
        sight.readScripts();
        sight.readTape();
        sight.readWhatGoesOn();
        return sight.rows;
    }

    private long ask(ToLongFunction<KwicStore> call) {
        if (calls >= CALLS_OF_ONE) {
            x = new KwicStore();
            recipe.accept(x);
            calls = 0;
        }
        calls++;
        return call.applyAsLong(x);
    }

    private long row(String name, ToLongFunction<KwicStore> call) {
        long answer = ask(call);
        rows.add(name + " = " + answer);
        return answer;
    }

    /** LINES, counts, CURSORS and the LOG: all that ACTS change. */
    private void readState() {
        for (int what = 0; what <= 5; what++) {
            int w = what;
            row("count(" + w + ")", x -> x.count(w));
        }
        for (int what = 0; what <= 3; what++) {
            int w = what;
            row("rule(" + w + ")", x -> x.rule(w));
        }
        for (int k = 0; k < ask(x -> x.count(0)); k++) {
            readLine(k);
        }
        for (int cursor = 0; cursor < 3; cursor++) {
            readCursor(cursor);
        }
        for (int i = 0; i < ask(x -> x.count(3)); i++) {
            for (int what = 0; what < 3; what++) {
                int j = i;
                int w = what;
                row("log(" + j + ", " + w + ")", x -> x.log(j, w));
            }
        }
    }

    private void readLine(int k) {
        row("line(" + k + ", 0)", x -> x.line(k, 0));
        long signs = row("line(" + k + ", 1)", x -> x.line(k, 1));
        StringBuilder told = new StringBuilder();
        for (int place = 0; place < signs; place++) {
            int p = place;
            told.append((char) ask(x -> x.sign(k, p)));
        }
        rows.add("line " + k + " = " + told);
    }

    private void readCursor(int cursor) {
        for (int what = 0; what <= 5; what++) {
            int w = what;
            row("cursor(" + cursor + ", " + w + ")", x -> x.cursor(cursor, w));
        }
        for (int i = 0; i < ask(x -> x.cursor(cursor, 2)); i++) {
            int j = i;
            row("told(" + cursor + ", " + j + ", 0)", x -> x.told(cursor, j, 0));
            row("told(" + cursor + ", " + j + ", 1)", x -> x.told(cursor, j, 1));
        }
    }

    private void readPlaces() {
        for (int i = 0; i < ask(x -> x.rule(1)); i++) {
            for (int what = 0; what < 3; what++) {
                int j = i;
                int w = what;
                row("all(" + j + ", " + w + ")", x -> x.all(j, w));
            }
        }
        row("twice(0)", x -> x.twice(0));
        row("twice(1)", x -> x.twice(1));
        for (int n = 1; n <= 6; n++) {
            int m = n;
            row("unlike(" + m + ")", x -> x.unlike(m));
            row("frequent(" + m + ", 0)", x -> x.frequent(m, 0));
            row("frequent(" + m + ", 1)", x -> x.frequent(m, 1));
            row("frequent(" + m + ", 2)", x -> x.frequent(m, 2));
        }
        for (int what = 0; what <= 6; what++) {
            int w = what;
            row("most(" + w + ")", x -> x.most(w));
        }
    }

    private void readHits() {
        for (int i = 0; i < ask(x -> x.rule(2)); i++) {
            int j = i;
            row("hit(" + j + ", 0)", x -> x.hit(j, 0));
            row("hit(" + j + ", 1)", x -> x.hit(j, 1));
            StringBuilder told = new StringBuilder();
            for (int at = 0; at < ask(x -> x.spell(j, KwicStore.NONE)); at++) {
                int a = at;
                told.append((char) ask(x -> x.spell(j, a)));
            }
            rows.add("hit " + i + " = " + told);
        }
        for (int sign = 0; sign <= 27; sign++) {
            int s = sign;
            row("beside(true, " + s + ")", x -> x.beside(true, s));
            row("beside(false, " + s + ")", x -> x.beside(false, s));
        }
    }

    private void readScripts() {
        for (int script = 0; script < ask(x -> x.count(1)); script++) {
            int s = script;
            row("run(" + s + ", 0)", x -> x.run(s, 0));
            row("run(" + s + ", 1)", x -> x.run(s, 1));
            for (int i = 0; i < 12; i++) {
                for (int what = 0; what < 4; what++) {
                    int j = i;
                    int w = what;
                    row("step(" + s + ", " + j + ", " + w + ")", x -> x.step(s, j, w));
                }
            }
        }
    }

    private void readTape() {
        for (int sort = 0; sort <= 3; sort++) {
            int s = sort;
            row("fault(" + s + ")", x -> x.fault(s));
        }
        behind("text(0)", x -> x.text(0));
        behind("text(1)", x -> x.text(1));
        behind("word()", x -> x.word());
        behind("put(0)", x -> x.put(0));
        long bytes = ask(x -> x.count(2));
        for (int n = 0; n < bytes; n++) {
            int m = n;
            behind("end(" + m + ") and fault(0)", x -> x.end(m) ? x.fault(0) : -3);
        }
    }

    private void readWhatGoesOn() {
        long undoable = ask(x -> x.count(4));
        for (int n = 1; n <= undoable; n++) {
            int times = n;
            behind(n + " UNDONE", x -> {
                for (int i = 1; i < times; i++) {
                    x.undo();
                }
                return x.undo();
            });
        }
        behind("back()", x -> x.back());
        for (int cursor = 0; cursor < 3; cursor++) {
            int c = cursor;
            behind("page(" + c + ")", x -> x.page(c));
        }
    }

    /** What stands behind one call more, on an object of its own. */
    private void behind(String name, ToLongFunction<KwicStore> call) {
        Sight later = new Sight(x -> {
            recipe.accept(x);
            call.applyAsLong(x);
        });
        KwicStore fresh = new KwicStore();
        recipe.accept(fresh);
        rows.add(name + " = " + call.applyAsLong(fresh));
        later.readState();
        if (name.equals("text(1)")) {
            later.readScripts();
        }
        for (String row : later.rows) {
            rows.add("behind " + name + ": " + row);
        }
    }
}
