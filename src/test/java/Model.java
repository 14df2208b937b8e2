import java.util.ArrayList;
import java.util.Comparator;
import java.util.HashMap;
import java.util.List;
import java.util.Map;
import java.util.TreeMap;
import java.util.TreeSet;
import java.util.regex.Matcher;
import java.util.regex.Pattern;

/**
 * The promises once more, as plainly as the Java library lets them be written: texts, lists, states that are
 * never changed but made anew. A call is a name with numbers; one that throws answers THROWN.
 */
final class Model {
    static final long THROWN = Long.MIN_VALUE;
    private static final long NONE = -1;
    private static final long HIDDEN = -1000000;

    private static final String ROW = " *[a-z_](?: *[a-z_]){0,19}";
    private static final String WORD = " *[a-z_](?: *[a-z_]){0,5}";
    private static final String STEP = "(?: *[ri] *[0-9] *:" + ROW + "| *[dpwj] *[0-9]| *[sb] *[0-9] *, *[0-9]"
        + "| *c *[0-9] *, *[0-9] *:" + WORD + ")";
    private static final Pattern[] TEXTS = {
        Pattern.compile(ROW + "(?: *;" + ROW + "){0,7} *"),
        Pattern.compile(STEP + "(?: *;" + STEP + "){0,11} *"),
        Pattern.compile(ROW + " *"),
        Pattern.compile(WORD + " *"),
    };

    private record Line(int number, String signs) { }

    private record Hit(int line, int place, int number, String follows, String ahead) {
        static final Comparator<Hit> ORDER = Comparator.comparing(Hit::follows).thenComparing(Hit::ahead)
            .thenComparingInt(Hit::number).thenComparingInt(Hit::place);
    }

    private record Cursor(String word, int size, Hit mark, List<Hit> page, int onPages) { }

    private record Entry(int sort, int number, int signs) { }

    private record Act(int sort, int first, int second, String signs) { }

    private record State(List<Line> lines, int given, Map<Integer, Cursor> cursors, List<Entry> log) { }

    private String tape = "";
    private State now = new State(List.of(), 0, Map.of(), List.of());
    private State image;
    private List<State> past = new ArrayList<>();
    private String word = "";
    private final List<List<Act>> scripts = new ArrayList<>();
    private final long[] status = new long[4];
    private long seed;

    long call(String name, long... n) {
        switch (name) {
            case "feed": return feed(n);
            case "end": return end(n[0]);
            case "fault": return n[0] < 0 || n[0] > 3 ? -2 : fault((int) n[0]);
            case "text": return n[0] == 0 ? store() : n[0] == 1 ? script() : NONE;
            case "word": return word();
            case "rule": return noStore() ? NONE : pick(NONE, n[0], lines(), signs(now), hits().size(), word.length());
            case "line": return hasLine(n[0]) ? pick(THROWN, n[1], at(n[0]).number, at(n[0]).signs.length()) : THROWN;
            case "sign": return hasPlace(n[0], n[1]) ? at(n[0]).signs.charAt((int) n[1]) : NONE;
            case "hit": return hit(n[0], n[1]);
            case "rank": return rank(hits(), n[0], n[1]);
            case "all": return all(n[0], n[1]);
            case "twice": return twice(n[0]);
            case "unlike": return noStore() || n[0] < 1 || n[0] > 6 ? NONE : words((int) n[0]).size();
            case "frequent": return frequent(n[0], n[1]);
            case "few": return few(n[0], n[1]);
            case "beside": return beside(n[0] == 1, n[1]);
            case "log": return log(n[0], n[1]);
            case "cursor": return cursor(n[0], n[1]);
            case "told": return told(n[0], n[1], n[2]);
            case "ways": return ways(n[0], n[1]);
            case "status": return n[0] < 0 || n[0] > 3 ? NONE : status[(int) n[0]];
            case "undo": return undo();
            case "spell": return spell(n[0], n[1]);
            case "would": return would(n[0]);
            case "step": return step(n[0], n[1], n[2]);
            case "run": return run(n[0], n[1]);
            case "perform": return perform(n[0]);
            case "most": return most(n[0]);
            case "image": return image();
            case "back": return back();
            case "count":
                return pick(HIDDEN, n[0], lines(), scripts.size(), tape.length(), now.log.size(), past.size(), now.given);
            default: return act(name, n);
        }
    }

    private static long pick(long none, long what, long... answers) {
        return what < 0 || what >= answers.length ? none : answers[(int) what];
    }

    private boolean noStore() {
        return now.lines.isEmpty();
    }

    private int lines() {
        return now.lines.size();
    }

    private boolean hasLine(long k) {
        return k >= 0 && k < lines();
    }

    private boolean hasPlace(long k, long place) {
        return hasLine(k) && place >= 0 && place < at(k).signs.length();
    }

    private Line at(long k) {
        return now.lines.get((int) k);
    }

    private static int signs(State state) {
        return state.lines.stream().mapToInt(line -> line.signs.length()).sum();
    }

    private long feed(long[] n) {
        StringBuilder more = new StringBuilder(tape);
        for (long four : n) {
            for (int shift = 24; shift >= 0; shift -= 8) {
                char next = (char) (four >> shift & 0xFF);
                if (next != 0) {
                    more.append(next);
                }
            }
        }
        if (more.length() > 240) {
            return NONE;
        }
        tape = more.toString();
        return tape.length();
    }

    private long end(long n) {
        if (n < 0 || n > tape.length()) {
            return 0;
        }
        tape = tape.substring(0, (int) n);
        return 1;
    }

    /** The first byte with which what is ahead of it is the beginning of no such text. */
    private long fault(int sort) {
        for (int length = 0; length <= tape.length(); length++) {
            Matcher matcher = TEXTS[sort].matcher(tape.substring(0, length));
            boolean whole = matcher.matches();
            if (!whole && !matcher.hitEnd()) {
                return length - 1;
            }
            if (length == tape.length()) {
                return whole ? NONE : length;
            }
        }
        throw new AssertionError();
    }

    private long store() {
        if (fault(0) != NONE) {
            return NONE;
        }
        List<Line> lines = new ArrayList<>();
        for (String signs : tape.replace(" ", "").split(";")) {
            lines.add(new Line(lines.size(), signs));
        }
        now = new State(List.copyOf(lines), lines.size(), Map.of(), List.of());
        tape = "";
        word = "";
        past = new ArrayList<>();
        image = null;
        return lines.size();
    }

    private long script() {
        if (fault(1) != NONE || scripts.size() == 4) {
            return NONE;
        }
        List<Act> acts = new ArrayList<>();
        for (String step : tape.replace(" ", "").split(";")) {
            int comma = step.indexOf(',');
            int colon = step.indexOf(':');
            acts.add(new Act("ridscpwbj".indexOf(step.charAt(0)), step.charAt(1) - '0',
                comma < 0 ? (int) HIDDEN : step.charAt(comma + 1) - '0', colon < 0 ? "" : step.substring(colon + 1)));
        }
        scripts.add(acts);
        tape = "";
        return scripts.size() - 1;
    }

    private long word() {
        if (noStore() || fault(3) != NONE) {
            return NONE;
        }
        word = tape.replace(" ", "");
        tape = "";
        return hits().size();
    }

    private static List<Hit> hits(State state, String word) {
        List<Hit> hits = new ArrayList<>();
        for (int k = 0; k < state.lines.size(); k++) {
            String signs = state.lines.get(k).signs;
            for (int place = 0; place < signs.length(); place++) {
                if (signs.startsWith(word, place)) {
                    hits.add(new Hit(k, place, state.lines.get(k).number, signs.substring(place + word.length()),
                        new StringBuilder(signs.substring(0, place)).reverse().toString()));
                }
            }
        }
        hits.sort(Hit.ORDER);
        return hits;
    }

    private List<Hit> hits() {
        return word.isEmpty() ? List.of() : hits(now, word);
    }

    private long hit(long i, long what) {
        if (i < 0 || i >= hits().size()) {
            return NONE;
        }
        Hit hit = hits().get((int) i);
        return pick(NONE, what, hit.line, hit.place, hit.follows.length(), hit.ahead.length());
    }

    private static int rank(List<Hit> hits, long line, long place) {
        for (int i = 0; i < hits.size(); i++) {
            if (hits.get(i).line == line && hits.get(i).place == place) {
                return i;
            }
        }
        return (int) NONE;
    }

    private static int shared(List<Hit> all, int i) {
        if (i < 0 || i + 1 >= all.size()) {
            return (int) NONE;
        }
        String one = all.get(i).follows;
        String other = all.get(i + 1).follows;
        int shared = 0;
        while (shared < one.length() && other.startsWith(one.substring(0, shared + 1))) {
            shared++;
        }
        return shared;
    }

    private long all(long i, long what) {
        List<Hit> all = hits(now, "");
        if (i < 0 || i >= all.size()) {
            return NONE;
        }
        return pick(NONE, what, all.get((int) i).line, all.get((int) i).place, shared(all, (int) i));
    }

    private long twice(long what) {
        List<Hit> all = hits(now, "");
        for (int most = 20; most > 0; most--) {
            for (int i = 0; i < all.size(); i++) {
                if (shared(all, i) == most) {
                    return pick(NONE, what, i, most);
                }
            }
        }
        return NONE;
    }

    private TreeSet<String> words(int n) {
        TreeSet<String> words = new TreeSet<>();
        for (Line line : now.lines) {
            for (int place = 0; place + n <= line.signs.length(); place++) {
                words.add(line.signs.substring(place, place + n));
            }
        }
        return words;
    }

    private long frequent(long n, long what) {
        if (noStore() || n < 1 || n > 6) {
            return NONE;
        }
        List<Hit> best = List.of();
        for (String candidate : words((int) n)) {
            List<Hit> hits = hits(now, candidate);
            best = hits.size() > best.size() ? hits : best;
        }
        return best.isEmpty() ? NONE : pick(NONE, what, best.size(), best.get(0).line, best.get(0).place);
    }

    private long few(long line, long place) {
        if (!hasPlace(line, place)) {
            return NONE;
        }
        String from = at(line).signs.substring((int) place);
        for (int n = 1; n <= from.length(); n++) {
            if (hits(now, from.substring(0, n)).size() == 1) {
                return n;
            }
        }
        return NONE;
    }

    private long beside(boolean after, long sign) {
        if (noStore() || word.isEmpty() || sign < 0 || sign > 27) {
            return NONE;
        }
        return hits().stream().map(hit -> after ? hit.follows : hit.ahead)
            .filter(side -> (side.isEmpty() ? 27 : "_abcdefghijklmnopqrstuvwxyz".indexOf(side.charAt(0))) == sign).count();
    }

    private long log(long i, long what) {
        if (i < 0 || i >= now.log.size()) {
            return HIDDEN;
        }
        Entry entry = now.log.get(now.log.size() - 1 - (int) i);
        return pick(HIDDEN, what, entry.sort, entry.number, entry.signs);
    }

    private static List<Hit> left(State state, Cursor cursor) {
        List<Hit> left = hits(state, cursor.word);
        left.removeIf(hit -> cursor.mark != null && Hit.ORDER.compare(hit, cursor.mark) <= 0);
        return left;
    }

    private long cursor(long i, long what) {
        Cursor c = now.cursors.get((int) i);
        return c == null ? NONE : pick(NONE, what, c.size, c.word.length(), c.page.size(), c.onPages,
            left(now, c).size(), c.mark == null ? 0 : 1);
    }

    private long told(long i, long j, long what) {
        Cursor c = now.cursors.get((int) i);
        if (c == null || j < 0 || j >= c.page.size()) {
            return NONE;
        }
        return pick(NONE, what, c.page.get((int) j).number, c.page.get((int) j).place);
    }

    private long act(String name, long[] n) {
        int sort = List.of("set", "put", "take", "swap", "lay", "page", "rewind", "split", "join").indexOf(name);
        boolean byTape = sort <= 1;
        String given = byTape ? fault(2) == NONE ? tape.replace(" ", "") : "" : sort == 4 ? word : "";
        long answer = attempt(new Act(sort, (int) n[0], n.length > 1 ? (int) n[1] : 0, given));
        if (answer < -1) {
            status[(int) (-2 - answer)]++;
            return NONE;
        }
        if (byTape) {
            tape = "";
        }
        return answer;
    }

    /** Its answer, or -2 less the STATUS it is refused under. */
    private long attempt(Act act) {
        int refusal = refusal(now, act);
        if (refusal >= 0) {
            return -2 - refusal;
        }
        past.add(now);
        if (past.size() > 40) {
            past.remove(0);
        }
        State before = now;
        now = done(before, act);
        return answer(before, now, act);
    }

    private static int refusal(State state, Act act) {
        int lines = state.lines.size();
        boolean k = act.first >= 0 && act.first < lines;
        Cursor cursor = state.cursors.get(act.first);
        switch (act.sort) {
            case 0: return !k ? 0 : act.signs.isEmpty() ? 1 : state.lines.get(act.first).signs.equals(act.signs) ? 2 : -1;
            case 1:
                return lines == 0 || act.first < 0 || act.first > lines ? 0 : act.signs.isEmpty() ? 1 : lines >= 10 ? 3 : -1;
            case 2: return !k ? 0 : lines == 1 ? 2 : -1;
            case 3: return !k || act.second < 0 || act.second >= lines ? 0 : act.first == act.second ? 2 : -1;
            case 4:
                return lines == 0 || act.first < 0 || act.first > 2 ? 0
                    : act.second < 1 || act.second > 9 || act.signs.isEmpty() ? 1 : -1;
            case 5: return cursor == null ? 0 : -1;
            case 6: return cursor == null ? 0 : cursor.mark == null ? 2 : -1;
            case 7:
                return !k ? 0 : act.second < 1 || act.second > state.lines.get(act.first).signs.length() - 1 ? 1
                    : lines >= 10 ? 3 : -1;
            default:
                return !k || act.first == lines - 1 ? 0
                    : (state.lines.get(act.first).signs + state.lines.get(act.first + 1).signs).length() > 20 ? 3 : -1;
        }
    }

    private static State done(State state, Act act) {
        List<Line> lines = new ArrayList<>(state.lines);
        Map<Integer, Cursor> cursors = new HashMap<>(state.cursors);
        int given = state.given;
        int k = act.first;
        int number = act.sort == 1 ? given : act.sort >= 4 && act.sort <= 6 ? k : lines.get(k).number;
        Cursor old = cursors.get(k);
        switch (act.sort) {
            case 0: lines.set(k, new Line(lines.get(k).number, act.signs)); break;
            case 1: lines.add(k, new Line(given++, act.signs)); break;
            case 2: lines.remove(k); break;
            case 3: java.util.Collections.swap(lines, k, act.second); break;
            case 4: cursors.put(k, new Cursor(act.signs, act.second, null, List.of(), 0)); break;
            case 5:
                List<Hit> left = left(state, old);
                List<Hit> page = List.copyOf(left.subList(0, Math.min(old.size, left.size())));
                cursors.put(k, new Cursor(old.word, old.size, page.isEmpty() ? old.mark : page.get(page.size() - 1), page,
                    old.onPages + page.size()));
                break;
            case 6: cursors.put(k, new Cursor(old.word, old.size, null, List.of(), 0)); break;
            case 7:
                Line whole = lines.get(k);
                lines.set(k, new Line(whole.number, whole.signs.substring(0, act.second)));
                lines.add(k + 1, new Line(given++, whole.signs.substring(act.second)));
                break;
            default:
                lines.set(k, new Line(lines.get(k).number, lines.get(k).signs + lines.get(k + 1).signs));
                lines.remove(k + 1);
        }
        List<Entry> log = new ArrayList<>(state.log);
        State next = new State(lines, given, cursors, log);
        log.add(new Entry(act.sort, number, signs(next)));
        if (log.size() > 60) {
            log.remove(0);
        }
        return next;
    }

    private static long answer(State before, State after, Act act) {
        int k = act.first;
        switch (act.sort) {
            case 2: return before.lines.get(k).signs.length();
            case 4: return hits(after, act.signs).size();
            case 5: return after.cursors.get(k).page.size();
            case 6: return left(after, after.cursors.get(k)).size();
            case 7: return after.lines.get(k + 1).number;
            case 8: return after.lines.get(k).signs.length();
            default: return after.lines.get(k).number;
        }
    }

    private int draw(int j) {
        seed = seed * 6364136223846793005L + 1442695040888963407L;
        return (int) ((seed >>> 33) % j);
    }

    private String drawnSigns() {
        StringBuilder signs = new StringBuilder();
        for (int i = draw(6) + 1; i > 0; i--) {
            signs.append("ab_".charAt(draw(3)));
        }
        return signs.toString();
    }

    private long ways(long n, long start) {
        if (noStore() || n < 1 || n > 40) {
            return NONE;
        }
        seed = start;
        for (int i = 0; i < n; i++) {
            int sort = draw(8);
            int k = draw(sort == 3 ? lines() + 1 : sort >= 6 ? 3 : lines());
            attempt(new Act(new int[] {0, 0, 0, 1, 2, 3, 5, 6}[sort], k, sort == 5 ? draw(lines()) : 0,
                sort <= 3 ? drawnSigns() : ""));
        }
        return signs(now);
    }

    private long undo() {
        if (past.isEmpty()) {
            return NONE;
        }
        now = past.remove(past.size() - 1);
        return past.size();
    }

    private long spell(long k, long i) {
        if (k < 0 || k >= hits().size()) {
            return NONE;
        }
        Hit hit = hits().get((int) k);
        String ahead = new StringBuilder(hit.ahead.substring(0, Math.min(5, hit.ahead.length()))).reverse().toString();
        String spelled = ahead + "[" + word + "]" + hit.follows.substring(0, Math.min(5, hit.follows.length()));
        return i == NONE ? spelled.length() : i < 0 || i >= spelled.length() ? NONE : spelled.charAt((int) i);
    }

    private long would(long k) {
        if (!hasLine(k) || fault(2) != NONE || word.isEmpty()) {
            return NONE;
        }
        return hits(done(now, new Act(0, (int) k, 0, tape.replace(" ", ""))), word).size();
    }

    private List<Act> script(long i) {
        return i < 0 || i >= scripts.size() ? List.of() : scripts.get((int) i);
    }

    private long step(long script, long i, long what) {
        if (i < 0 || i >= script(script).size()) {
            return HIDDEN;
        }
        Act act = script(script).get((int) i);
        return pick(HIDDEN, what, act.sort, act.first, act.second, act.signs.length());
    }

    private long run(long script, long what) {
        if (script(script).isEmpty() || noStore()) {
            return HIDDEN;
        }
        State tried = now;
        int done = 0;
        for (Act act : script(script)) {
            if (refusal(tried, act) >= 0) {
                return pick(HIDDEN, what, done, signs(tried));
            }
            tried = done(tried, act);
            done++;
        }
        return pick(HIDDEN, what, NONE, signs(tried));
    }

    private long perform(long script) {
        if (script(script).isEmpty() || noStore()) {
            return NONE;
        }
        int done = 0;
        for (Act act : script(script)) {
            if (attempt(act) < -1) {
                return done;
            }
            done++;
        }
        return done;
    }

    private long most(long what) {
        if (noStore()) {
            return HIDDEN;
        }
        TreeMap<Integer, Integer> byLength = new TreeMap<>();
        int rising = 0;
        int within = 0;
        int laid = 0;
        for (int k = 0; k < lines(); k++) {
            byLength.putIfAbsent(at(k).signs.length(), k);
            rising += rising == k && (k == 0 || at(k).number > at(k - 1).number) ? 1 : 0;
            for (int other = 0; other < lines(); other++) {
                within |= other != k && at(other).signs.contains(at(k).signs) ? 1 << k : 0;
            }
        }
        for (int i : now.cursors.keySet()) {
            laid += 1 << i;
        }
        return pick(HIDDEN, what, byLength.lastEntry().getValue(), byLength.firstEntry().getValue(), words(1).size(),
            Math.max(0, twice(1)), rising, laid, within);
    }

    private long image() {
        if (noStore()) {
            return NONE;
        }
        image = now;
        return signs(now);
    }

    private long back() {
        if (image == null) {
            return NONE;
        }
        now = image;
        past = new ArrayList<>();
        return signs(now);
    }
}
