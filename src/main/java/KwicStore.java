import java.util.NoSuchElementException;

/**
 * A store of lines that are asked for words in their surroundings.
 *
 * All that ACTS change stands in one State, so that undoing, images and trial runs are copies of it.
 * Every row is made in a constructor: no call makes an object.
 */
public final class KwicStore {
    public static final int NONE = -1;
    public static final int HIDDEN = -1000000;

    private static final int TAPE_BYTES = 240;
    private static final int STORE_LINES = 8;
    private static final int MOST_LINES = 10;
    private static final int LINE_SIGNS = 20;
    private static final int WORD_SIGNS = 6;
    private static final int MOST_STEPS = 12;
    private static final int MOST_SCRIPTS = 4;
    private static final int CURSORS = 3;
    private static final int MOST_SIZE = 9;
    private static final int UNDOABLE = 40;
    private static final int LOGGED = 60;
    private static final int MOST_WAYS = 40;
    private static final int SPELL_SIDE = 5;
    private static final int LINE_END = 27;
    private static final int BLANK = 32;

    private static final int SET = 0;
    private static final int PUT = 1;
    private static final int TAKE = 2;
    private static final int SWAP = 3;
    private static final int LAY = 4;
    private static final int PAGE = 5;
    private static final int REWIND = 6;
    private static final int SPLIT = 7;
    private static final int JOIN = 8;

    private static final int NO_SUCH = 0;
    private static final int OUT_OF_BOUNDS = 1;
    private static final int CANNOT_BE = 2;
    private static final int TOO_MUCH = 3;
    private static final int STATUS_SORTS = 4;

    private static final long DRAW_FACTOR = 6364136223846793005L;
    private static final long DRAW_ADDEND = 1442695040888963407L;
    private static final int[] DRAWN_SIGNS = {'a', 'b', '_'};

    private final Tape tape = new Tape();
    private final State now;
    private final State trial = new State();
    private final State image = new State();
    private boolean imaged;
    private final State[] past = new State[UNDOABLE];
    private int nextPast;
    private int undoable;
    private final Signs word = new Signs();
    private final Signs noWord = new Signs();
    private final Signs read = new Signs();
    private final Step asked = new Step();
    /** One more than there may be: the last free one is where a SCRIPT is read to. */
    private final Script[] scripts = new Script[MOST_SCRIPTS + 1];
    private int scriptCount;
    private final int[] refusals = new int[STATUS_SORTS];
    private final Ranking wordRanking;
    private final Ranking fullRanking;
    private long drawn;

    public KwicStore() {
        State ranked = new State();
        now = ranked;
        wordRanking = new Ranking(ranked);
        fullRanking = new Ranking(ranked);
        for (int i = 0; i < past.length; i++) {
            past[i] = new State();
        }
        for (int i = 0; i < scripts.length; i++) {
            scripts[i] = new Script();
        }
    }

    public int feed(int a, int b, int c, int d, int e) {
        int before = tape.size;
        boolean fits = tape.append(a) && tape.append(b) && tape.append(c) && tape.append(d) && tape.append(e);
        if (!fits) {
            tape.size = before;
            return NONE;
        }
        return tape.size;
    }

    public boolean end(int n) {
        if (n < 0 || n > tape.size) {
            return false;
        }
        tape.size = n;
        return true;
    }

    public int fault(int sort) {
        switch (sort) {
            case 0:
                return tape.storeFault(trial);
            case 1:
                return tape.scriptFault(scripts[scriptCount]);
            case 2:
                return tape.rowFault(read, LINE_SIGNS);
            case 3:
                return tape.rowFault(read, WORD_SIGNS);
            default:
                return -2;
        }
    }

    public int text(int sort) {
        switch (sort) {
            case 0:
                return takeStore();
            case 1:
                return takeScript();
            default:
                return NONE;
        }
    }

    private int takeStore() {
        if (tape.storeFault(trial) != NONE) {
            return NONE;
        }
        tape.size = 0;
        now.copyFrom(trial);
        word.size = 0;
        undoable = 0;
        imaged = false;
        forgetRankings();
        return now.count;
    }

    private int takeScript() {
        if (scriptCount >= MOST_SCRIPTS || tape.scriptFault(scripts[scriptCount]) != NONE) {
            return NONE;
        }
        tape.size = 0;
        scriptCount++;
        return scriptCount - 1;
    }

    public int word() {
        if (now.count == 0 || tape.rowFault(read, WORD_SIGNS) != NONE) {
            return NONE;
        }
        tape.size = 0;
        word.copyFrom(read);
        forgetRankings();
        return rankedHits().size;
    }

    public int rule(int what) {
        if (now.count == 0) {
            return NONE;
        }
        switch (what) {
            case 0:
                return now.count;
            case 1:
                return now.allSigns();
            case 2:
                return rankedHits().size;
            case 3:
                return word.size;
            default:
                return NONE;
        }
    }

    public int line(int k, int what) throws NoSuchElementException {
        if (!now.hasLine(k) || what < 0 || what > 1) {
            throw new NoSuchElementException();
        }
        return what == 0 ? now.lines[k].number : now.lines[k].signs.size;
    }

    public int sign(int k, int place) {
        return now.hasLine(k) ? now.lines[k].signs.at(place) : NONE;
    }

    public int hit(int i, int what) {
        Ranking ranking = rankedHits();
        if (!ranking.has(i)) {
            return NONE;
        }
        switch (what) {
            case 0:
                return ranking.lineOf(i);
            case 1:
            case 3:
                return ranking.placeOf(i);
            case 2:
                return ranking.signsFrom(i) - word.size;
            default:
                return NONE;
        }
    }

    public int rank(int line, int place) {
        return rankedHits().find(line, place);
    }

    public int all(int i, int what) {
        Ranking ranking = rankedPlaces();
        if (!ranking.has(i)) {
            return NONE;
        }
        switch (what) {
            case 0:
                return ranking.lineOf(i);
            case 1:
                return ranking.placeOf(i);
            case 2:
                return ranking.shared(i);
            default:
                return NONE;
        }
    }

    public int twice(int what) {
        Ranking ranking = rankedPlaces();
        int i = ranking.mostShared();
        switch (what) {
            case 0:
                return i;
            case 1:
                return ranking.shared(i);
            default:
                return NONE;
        }
    }

    public int unlike(int n) {
        if (now.count == 0 || n < 1 || n > WORD_SIGNS) {
            return NONE;
        }
        Ranking ranking = rankedPlaces();
        int words = 0;
        for (int i = 0; i < ranking.size; i++) {
            if (ranking.opensWord(i, n)) {
                words++;
            }
        }
        return words;
    }

    public int frequent(int n, int what) {
        if (n < 1 || n > WORD_SIGNS) {
            return NONE;
        }
        Ranking ranking = rankedPlaces();
        int first = ranking.mostFrequent(n);
        if (first == NONE) {
            return NONE;
        }
        switch (what) {
            case 0:
                return ranking.wordHits(first, n);
            case 1:
                return ranking.lineOf(first);
            case 2:
                return ranking.placeOf(first);
            default:
                return NONE;
        }
    }

    public int few(int line, int place) {
        Ranking ranking = rankedPlaces();
        int i = ranking.find(line, place);
        if (i == NONE) {
            return NONE;
        }
        int shared = Math.max(0, Math.max(ranking.shared(i - 1), ranking.shared(i)));
        return shared < ranking.signsFrom(i) ? shared + 1 : NONE;
    }

    public int beside(boolean after, int sign) {
        if (word.size == 0 || sign < 0 || sign > LINE_END) {
            return NONE;
        }
        Ranking ranking = rankedHits();
        int times = 0;
        for (int i = 0; i < ranking.size; i++) {
            int place = ranking.placeOf(i);
            Signs signs = now.lines[ranking.lineOf(i)].signs;
            if (signIndex(signs.at(after ? place + word.size : place - 1)) == sign) {
                times++;
            }
        }
        return times;
    }

    private static int signIndex(int sign) {
        if (sign == NONE) {
            return LINE_END;
        }
        return sign == '_' ? 0 : sign - 'a' + 1;
    }

    public int set(int k) {
        askWithTape(SET, k);
        return spendTape(attempt(asked, true));
    }

    public int put(int k) {
        askWithTape(PUT, k);
        return spendTape(attempt(asked, true));
    }

    public int take(int k) {
        asked.tell(TAKE, k, HIDDEN);
        return attempt(asked, true);
    }

    public int swap(int k, int other) {
        asked.tell(SWAP, k, other);
        return attempt(asked, true);
    }

    public int lay(int cursor, int size) {
        asked.tell(LAY, cursor, size);
        asked.signs.copyFrom(word);
        return attempt(asked, true);
    }

    public int page(int cursor) {
        asked.tell(PAGE, cursor, HIDDEN);
        return attempt(asked, true);
    }

    public int rewind(int cursor) {
        asked.tell(REWIND, cursor, HIDDEN);
        return attempt(asked, true);
    }

    public int cursor(int cursor, int what) {
        if (!now.hasCursor(cursor)) {
            return NONE;
        }
        Cursor chosen = now.cursors[cursor];
        switch (what) {
            case 0:
                return chosen.size;
            case 1:
                return chosen.word.size;
            case 2:
                return chosen.onPage;
            case 3:
                return chosen.onPages;
            case 4:
                return now.left(chosen);
            case 5:
                return chosen.marked ? 1 : 0;
            default:
                return NONE;
        }
    }

    public int told(int cursor, int i, int what) {
        if (!now.hasCursor(cursor) || i < 0 || i >= now.cursors[cursor].onPage) {
            return NONE;
        }
        switch (what) {
            case 0:
                return now.cursors[cursor].toldNumbers[i];
            case 1:
                return now.cursors[cursor].toldPlaces[i];
            default:
                return NONE;
        }
    }

    public int split(int k, int place) {
        asked.tell(SPLIT, k, place);
        return attempt(asked, true);
    }

    public int join(int k) {
        asked.tell(JOIN, k, HIDDEN);
        return attempt(asked, true);
    }

    public int ways(int n, long seed) {
        if (now.count == 0 || n < 1 || n > MOST_WAYS) {
            return NONE;
        }
        drawn = seed;
        for (int i = 0; i < n; i++) {
            drawAct();
            attempt(asked, false);
        }
        return now.allSigns();
    }

    private void drawAct() {
        int sort = draw(8);
        if (sort <= 2) {
            asked.tell(SET, draw(now.count), HIDDEN);
            drawSigns();
        } else if (sort == 3) {
            asked.tell(PUT, draw(now.count + 1), HIDDEN);
            drawSigns();
        } else if (sort == 4) {
            asked.tell(TAKE, draw(now.count), HIDDEN);
        } else if (sort == 5) {
            int k = draw(now.count);
            asked.tell(SWAP, k, draw(now.count));
        } else {
            asked.tell(sort == 6 ? PAGE : REWIND, draw(CURSORS), HIDDEN);
        }
    }

    private void drawSigns() {
        int size = draw(6) + 1;
        for (int i = 0; i < size; i++) {
            asked.signs.add(DRAWN_SIGNS[draw(DRAWN_SIGNS.length)]);
        }
    }

    private int draw(int choices) {
        drawn = drawn * DRAW_FACTOR + DRAW_ADDEND;
        return choices < 1 ? 0 : (int) ((drawn >>> 33) % choices);
    }

    public int status(int what) {
        return what < 0 || what >= refusals.length ? NONE : refusals[what];
    }

    public int undo() {
        if (undoable == 0) {
            return NONE;
        }
        nextPast = nextPast == 0 ? UNDOABLE - 1 : nextPast - 1;
        now.copyFrom(past[nextPast]);
        undoable--;
        forgetRankings();
        return undoable;
    }

    public int log(int i, int what) {
        return now.journal.entry(i, what);
    }

    public int spell(int k, int i) {
        Ranking ranking = rankedHits();
        if (!ranking.has(k)) {
            return NONE;
        }
        int place = ranking.placeOf(k);
        int ahead = Math.min(SPELL_SIDE, place);
        int behind = Math.min(SPELL_SIDE, ranking.signsFrom(k) - word.size);
        int bytes = ahead + word.size + behind + 2;
        if (i == NONE) {
            return bytes;
        }
        if (i < 0 || i >= bytes) {
            return NONE;
        }
        int opening = ahead;
        int closing = ahead + word.size + 1;
        if (i == opening) {
            return '[';
        }
        if (i == closing) {
            return ']';
        }
        int brackets = i < opening ? 0 : i < closing ? 1 : 2;
        return now.lines[ranking.lineOf(k)].signs.at(place - ahead + i - brackets);
    }

    public int would(int k) {
        if (!now.hasLine(k) || word.size == 0 || tape.rowFault(read, LINE_SIGNS) != NONE) {
            return NONE;
        }
        return now.hits(word) - now.lines[k].signs.hits(word) + read.hits(word);
    }

    public int step(int script, int i, int what) {
        if (!hasScript(script) || i < 0 || i >= scripts[script].size) {
            return HIDDEN;
        }
        Step step = scripts[script].steps[i];
        switch (what) {
            case 0:
                return step.sort;
            case 1:
                return step.first;
            case 2:
                return step.second;
            case 3:
                return step.signs.size;
            default:
                return HIDDEN;
        }
    }

    public int run(int script, int what) {
        if (!hasScript(script) || now.count == 0 || what < 0 || what > 1) {
            return HIDDEN;
        }
        Script tried = scripts[script];
        trial.copyFrom(now);
        int done = 0;
        while (done < tried.size && trial.refusal(tried.steps[done]) == NONE) {
            trial.carryOut(tried.steps[done]);
            done++;
        }
        if (what == 1) {
            return trial.allSigns();
        }
        return done == tried.size ? NONE : done;
    }

    public int perform(int script) {
        if (!hasScript(script) || now.count == 0) {
            return NONE;
        }
        Script performed = scripts[script];
        int done = 0;
        while (done < performed.size && attempt(performed.steps[done], false) != NONE) {
            done++;
        }
        return done;
    }

    public int most(int what) {
        if (now.count == 0) {
            return HIDDEN;
        }
        switch (what) {
            case 0:
                return now.longestLine();
            case 1:
                return now.shortestLine();
            case 2:
                return unlikeSigns();
            case 3:
                return Math.max(0, rankedPlaces().shared(rankedPlaces().mostShared()));
            case 4:
                return now.risingLines();
            case 5:
                return now.laidBits();
            case 6:
                return now.withinBits();
            default:
                return HIDDEN;
        }
    }

    private int unlikeSigns() {
        int seen = 0;
        for (int k = 0; k < now.count; k++) {
            Signs signs = now.lines[k].signs;
            for (int place = 0; place < signs.size; place++) {
                seen |= 1 << signIndex(signs.at(place));
            }
        }
        return Integer.bitCount(seen);
    }

    public int image() {
        if (now.count == 0) {
            return NONE;
        }
        image.copyFrom(now);
        imaged = true;
        return now.allSigns();
    }

    public int back() {
        if (!imaged) {
            return NONE;
        }
        now.copyFrom(image);
        undoable = 0;
        forgetRankings();
        return now.allSigns();
    }

    public int count(int what) {
        switch (what) {
            case 0:
                return now.count;
            case 1:
                return scriptCount;
            case 2:
                return tape.size;
            case 3:
                return now.journal.size();
            case 4:
                return undoable;
            case 5:
                return now.given;
            default:
                return HIDDEN;
        }
    }

    private boolean hasScript(int script) {
        return script >= 0 && script < scriptCount;
    }

    /** A TAPE with a FAULT is told as no SIGNS, so that the ACT is refused in its turn. */
    private void askWithTape(int sort, int k) {
        asked.tell(sort, k, HIDDEN);
        if (tape.rowFault(asked.signs, LINE_SIGNS) != NONE) {
            asked.signs.size = 0;
        }
    }

    private int spendTape(int answer) {
        if (answer != NONE) {
            tape.size = 0;
        }
        return answer;
    }

    /** NONE if it is refused; only ACTS that are asked for by a call of their own count in STATUS. */
    private int attempt(Step act, boolean counted) {
        int refusal = now.refusal(act);
        if (refusal != NONE) {
            if (counted) {
                refusals[refusal]++;
            }
            return NONE;
        }
        past[nextPast].copyFrom(now);
        nextPast = nextPast + 1 == UNDOABLE ? 0 : nextPast + 1;
        undoable = Math.min(UNDOABLE, undoable + 1);
        forgetRankings();
        int number = now.subject(act);
        int answer = now.carryOut(act);
        now.journal.add(act.sort, number, now.allSigns());
        return answer;
    }

    private void forgetRankings() {
        wordRanking.fresh = false;
        fullRanking.fresh = false;
    }

    /** The HITS of the WORD in hand; they are ranked anew only after something changed, as ranking is dear. */
    private Ranking rankedHits() {
        if (!wordRanking.fresh) {
            wordRanking.size = 0;
            if (word.size > 0) {
                wordRanking.fill(word);
            }
            wordRanking.fresh = true;
        }
        return wordRanking;
    }

    private Ranking rankedPlaces() {
        if (!fullRanking.fresh) {
            fullRanking.size = 0;
            fullRanking.fill(noWord);
            fullRanking.fresh = true;
        }
        return fullRanking;
    }

    /** A row of SIGNS: those of a LINE, of a WORD, or those that a STEP tells. */
    private static final class Signs {
        final int[] row = new int[LINE_SIGNS];
        int size;

        void add(int sign) {
            if (size < row.length) {
                row[size] = sign;
                size++;
            }
        }

        int at(int place) {
            return place < 0 || place >= size ? NONE : row[place];
        }

        void copyFrom(Signs other) {
            System.arraycopy(other.row, 0, row, 0, other.size);
            size = other.size;
        }

        boolean has(Signs word, int place) {
            if (place < 0 || place + word.size > size) {
                return false;
            }
            for (int i = 0; i < word.size; i++) {
                if (row[place + i] != word.row[i]) {
                    return false;
                }
            }
            return true;
        }

        /** A WORD without SIGNS is at each place, but not behind the last one. */
        int hits(Signs word) {
            int hits = 0;
            for (int place = 0; place < size; place++) {
                if (has(word, place)) {
                    hits++;
                }
            }
            return hits;
        }

        boolean isLike(Signs other) {
            return size == other.size && has(other, 0);
        }

        /** From two places on, one way (1) or backwards (-1); what ends is less. */
        int compare(int place, Signs other, int otherPlace, int way) {
            for (int i = 0; i <= LINE_SIGNS; i++) {
                int mine = place + i * way;
                int its = otherPlace + i * way;
                boolean ended = mine < 0 || mine >= size;
                boolean itsEnded = its < 0 || its >= other.size;
                if (ended || itsEnded) {
                    return ended == itsEnded ? 0 : ended ? -1 : 1;
                }
                if (row[mine] != other.row[its]) {
                    return row[mine] < other.row[its] ? -1 : 1;
                }
            }
            return 0;
        }

        int shared(int place, Signs other, int otherPlace) {
            int shared = 0;
            while (shared < LINE_SIGNS && at(place + shared) != NONE
                    && at(place + shared) == other.at(otherPlace + shared)) {
                shared++;
            }
            return shared;
        }
    }

    private static final class Line {
        final Signs signs = new Signs();
        int number;

        void copyFrom(Line other) {
            signs.copyFrom(other.signs);
            number = other.number;
        }

        /** The ORDER of two HITS of a WORD that has so many SIGNS. */
        int compare(int place, Line other, int otherPlace, int wordSize) {
            int order = signs.compare(place + wordSize, other.signs, otherPlace + wordSize, 1);
            if (order == 0) {
                order = signs.compare(place - 1, other.signs, otherPlace - 1, -1);
            }
            if (order == 0) {
                order = number - other.number;
            }
            return order == 0 ? place - otherPlace : order;
        }
    }

    /** Its SIZE is 0 while it is none. The MARK keeps its whole LINE, so that it is ordered as a HIT is. */
    private static final class Cursor {
        final Signs word = new Signs();
        int size;
        boolean marked;
        final Line markLine = new Line();
        int markPlace;
        int onPage;
        int onPages;
        final int[] toldNumbers = new int[MOST_SIZE];
        final int[] toldPlaces = new int[MOST_SIZE];

        void copyFrom(Cursor other) {
            word.copyFrom(other.word);
            size = other.size;
            marked = other.marked;
            markLine.copyFrom(other.markLine);
            markPlace = other.markPlace;
            onPage = other.onPage;
            onPages = other.onPages;
            System.arraycopy(other.toldNumbers, 0, toldNumbers, 0, MOST_SIZE);
            System.arraycopy(other.toldPlaces, 0, toldPlaces, 0, MOST_SIZE);
        }

        void unmark() {
            marked = false;
            onPage = 0;
            onPages = 0;
        }

        void tell(Line line, int place) {
            marked = true;
            markLine.signs.copyFrom(line.signs);
            markLine.number = line.number;
            markPlace = place;
            if (onPage < MOST_SIZE) {
                toldNumbers[onPage] = line.number;
                toldPlaces[onPage] = place;
                onPage++;
                onPages++;
            }
        }

        boolean isAhead(Line line, int place) {
            return line.signs.has(word, place)
                    && (!marked || line.compare(place, markLine, markPlace, word.size) > 0);
        }
    }

    /** The LOG as a ring: what is older than the latest ones is written over. */
    private static final class Journal {
        final int[] sorts = new int[LOGGED];
        final int[] numbers = new int[LOGGED];
        final int[] signs = new int[LOGGED];
        int written;

        void copyFrom(Journal other) {
            System.arraycopy(other.sorts, 0, sorts, 0, LOGGED);
            System.arraycopy(other.numbers, 0, numbers, 0, LOGGED);
            System.arraycopy(other.signs, 0, signs, 0, LOGGED);
            written = other.written;
        }

        int size() {
            return Math.min(LOGGED, written);
        }

        void add(int sort, int number, int allSigns) {
            int slot = written % LOGGED;
            sorts[slot] = sort;
            numbers[slot] = number;
            signs[slot] = allSigns;
            // Kept low, so that however many come it never goes round to a slot below 0.
            written = written + 1 == 2 * LOGGED ? LOGGED : written + 1;
        }

        int entry(int i, int what) {
            if (i < 0 || i >= size()) {
                return HIDDEN;
            }
            int slot = (written - 1 - i) % LOGGED;
            switch (what) {
                case 0:
                    return sorts[slot];
                case 1:
                    return numbers[slot];
                case 2:
                    return signs[slot];
                default:
                    return HIDDEN;
            }
        }
    }

    /** An ACT as it is asked for: by a STEP of a SCRIPT, by a call, or by draws. */
    private static final class Step {
        int sort;
        int first;
        int second;
        final Signs signs = new Signs();

        void tell(int newSort, int newFirst, int newSecond) {
            sort = newSort;
            first = newFirst;
            second = newSecond;
            signs.size = 0;
        }
    }

    private static final class Script {
        final Step[] steps = new Step[MOST_STEPS];
        int size;

        Script() {
            for (int i = 0; i < steps.length; i++) {
                steps[i] = new Step();
            }
        }
    }

    /** All that ACTS change. Without a STORE there are no LINES. */
    private static final class State {
        final Line[] lines = new Line[MOST_LINES];
        int count;
        int given;
        final Cursor[] cursors = new Cursor[CURSORS];
        final Journal journal = new Journal();
        /** Only used while a PAGE is turned: its HITS, each as its LINE times LINE_SIGNS and its place. */
        private final int[] spots = new int[MOST_SIZE];

        State() {
            for (int k = 0; k < lines.length; k++) {
                lines[k] = new Line();
            }
            for (int i = 0; i < cursors.length; i++) {
                cursors[i] = new Cursor();
            }
        }

        void copyFrom(State other) {
            for (int k = 0; k < other.count; k++) {
                lines[k].copyFrom(other.lines[k]);
            }
            count = other.count;
            given = other.given;
            for (int i = 0; i < cursors.length; i++) {
                cursors[i].copyFrom(other.cursors[i]);
            }
            journal.copyFrom(other.journal);
        }

        void empty() {
            count = 0;
            given = 0;
            for (int i = 0; i < cursors.length; i++) {
                cursors[i].size = 0;
                cursors[i].unmark();
            }
            journal.written = 0;
        }

        boolean hasLine(int k) {
            return k >= 0 && k < count;
        }

        boolean hasCursor(int i) {
            return i >= 0 && i < cursors.length && cursors[i].size > 0;
        }

        int allSigns() {
            int signs = 0;
            for (int k = 0; k < count; k++) {
                signs += lines[k].signs.size;
            }
            return signs;
        }

        int hits(Signs word) {
            int hits = 0;
            for (int k = 0; k < count; k++) {
                hits += lines[k].signs.hits(word);
            }
            return hits;
        }

        int left(Cursor cursor) {
            int left = 0;
            for (int k = 0; k < count; k++) {
                for (int place = 0; place < lines[k].signs.size; place++) {
                    if (cursor.isAhead(lines[k], place)) {
                        left++;
                    }
                }
            }
            return left;
        }

        /** The STATUS under which an ACT is refused, NONE if it can be. */
        int refusal(Step act) {
            int k = act.first;
            switch (act.sort) {
                case SET:
                    if (!hasLine(k)) {
                        return NO_SUCH;
                    }
                    if (act.signs.size == 0) {
                        return OUT_OF_BOUNDS;
                    }
                    return lines[k].signs.isLike(act.signs) ? CANNOT_BE : NONE;
                case PUT:
                    if (count == 0 || k < 0 || k > count) {
                        return NO_SUCH;
                    }
                    if (act.signs.size == 0) {
                        return OUT_OF_BOUNDS;
                    }
                    return count == MOST_LINES ? TOO_MUCH : NONE;
                case TAKE:
                    if (!hasLine(k)) {
                        return NO_SUCH;
                    }
                    return count == 1 ? CANNOT_BE : NONE;
                case SWAP:
                    if (!hasLine(k) || !hasLine(act.second)) {
                        return NO_SUCH;
                    }
                    return k == act.second ? CANNOT_BE : NONE;
                case SPLIT:
                    return splitRefusal(k, act.second);
                case JOIN:
                    return joinRefusal(k);
                default:
                    return cursorRefusal(act);
            }
        }

        private int splitRefusal(int k, int place) {
            if (!hasLine(k)) {
                return NO_SUCH;
            }
            if (place < 1 || place >= lines[k].signs.size) {
                return OUT_OF_BOUNDS;
            }
            return count == MOST_LINES ? TOO_MUCH : NONE;
        }

        private int joinRefusal(int k) {
            if (k < 0 || k >= count - 1) {
                return NO_SUCH;
            }
            return lines[k].signs.size + lines[k + 1].signs.size > LINE_SIGNS ? TOO_MUCH : NONE;
        }

        private int cursorRefusal(Step act) {
            int i = act.first;
            if (act.sort == LAY) {
                if (i < 0 || i >= cursors.length || count == 0) {
                    return NO_SUCH;
                }
                return act.second < 1 || act.second > MOST_SIZE || act.signs.size == 0 ? OUT_OF_BOUNDS : NONE;
            }
            if (!hasCursor(i)) {
                return NO_SUCH;
            }
            return act.sort == REWIND && !cursors[i].marked ? CANNOT_BE : NONE;
        }

        /** The number under which the LOG has an ACT; asked for ahead of it. */
        int subject(Step act) {
            switch (act.sort) {
                case PUT:
                    return given;
                case LAY:
                case PAGE:
                case REWIND:
                    return act.first;
                default:
                    return hasLine(act.first) ? lines[act.first].number : NONE;
            }
        }

        /** Only what is not refused may be carried out: nothing is looked at again here. */
        int carryOut(Step act) {
            int k = act.first;
            switch (act.sort) {
                case SET:
                    lines[k].signs.copyFrom(act.signs);
                    return lines[k].number;
                case PUT:
                    open(k).signs.copyFrom(act.signs);
                    return lines[k].number;
                case TAKE:
                    close(k);
                    return lines[count].signs.size;
                case SWAP:
                    return change(k, act.second);
                case LAY:
                    return start(cursors[k], act);
                case PAGE:
                    return turn(cursors[k]);
                case REWIND:
                    cursors[k].unmark();
                    return left(cursors[k]);
                case SPLIT:
                    return cut(k, act.second);
                default:
                    return unite(k);
            }
        }

        /** A LINE with the next NUMBER comes to k; its SIGNS are still what they happen to be. */
        Line open(int k) {
            Line opened = lines[count];
            for (int i = count; i > k; i--) {
                lines[i] = lines[i - 1];
            }
            lines[k] = opened;
            opened.number = given;
            given++;
            count++;
            return opened;
        }

        /** The LINE that is gone is kept behind all others, to be used again. */
        private void close(int k) {
            Line closed = lines[k];
            for (int i = k; i < count - 1; i++) {
                lines[i] = lines[i + 1];
            }
            count--;
            lines[count] = closed;
        }

        private int change(int k, int other) {
            Line first = lines[k];
            lines[k] = lines[other];
            lines[other] = first;
            return lines[k].number;
        }

        private int start(Cursor cursor, Step act) {
            cursor.word.copyFrom(act.signs);
            cursor.size = act.second;
            cursor.unmark();
            return hits(cursor.word);
        }

        private int turn(Cursor cursor) {
            int found = 0;
            for (int k = 0; k < count; k++) {
                for (int place = 0; place < lines[k].signs.size; place++) {
                    if (cursor.isAhead(lines[k], place)) {
                        found = offer(cursor, found, k, place);
                    }
                }
            }
            cursor.onPage = 0;
            for (int i = 0; i < found; i++) {
                cursor.tell(lines[spots[i] / LINE_SIGNS], spots[i] % LINE_SIGNS);
            }
            return found;
        }

        /** Of the HITS that are offered the least ones stay, as many as the SIZE; answers how many there are. */
        private int offer(Cursor cursor, int found, int line, int place) {
            int at = found;
            while (at > 0 && lines[line].compare(place, lines[spots[at - 1] / LINE_SIGNS],
                    spots[at - 1] % LINE_SIGNS, cursor.word.size) < 0) {
                at--;
            }
            if (at >= cursor.size || at >= spots.length) {
                return found;
            }
            int moved = Math.min(found, cursor.size - 1);
            for (int i = moved; i > at; i--) {
                spots[i] = spots[i - 1];
            }
            spots[at] = line * LINE_SIGNS + place;
            return moved + 1;
        }

        private int cut(int k, int place) {
            Signs rest = lines[k].signs;
            Line opened = open(k + 1);
            opened.signs.size = 0;
            for (int i = place; i < rest.size; i++) {
                opened.signs.add(rest.at(i));
            }
            rest.size = place;
            return opened.number;
        }

        private int unite(int k) {
            Signs first = lines[k].signs;
            Signs second = lines[k + 1].signs;
            for (int i = 0; i < second.size; i++) {
                first.add(second.at(i));
            }
            close(k + 1);
            return first.size;
        }

        int longestLine() {
            int longest = 0;
            for (int k = 1; k < count; k++) {
                if (lines[k].signs.size > lines[longest].signs.size) {
                    longest = k;
                }
            }
            return longest;
        }

        int shortestLine() {
            int shortest = 0;
            for (int k = 1; k < count; k++) {
                if (lines[k].signs.size < lines[shortest].signs.size) {
                    shortest = k;
                }
            }
            return shortest;
        }

        int risingLines() {
            int rising = 1;
            while (rising < count && lines[rising].number > lines[rising - 1].number) {
                rising++;
            }
            return rising;
        }

        int laidBits() {
            int bits = 0;
            for (int i = 0; i < cursors.length; i++) {
                if (hasCursor(i)) {
                    bits |= 1 << i;
                }
            }
            return bits;
        }

        int withinBits() {
            int bits = 0;
            for (int k = 0; k < count; k++) {
                for (int other = 0; other < count; other++) {
                    if (other != k && lines[other].signs.hits(lines[k].signs) > 0) {
                        bits |= 1 << k;
                    }
                }
            }
            return bits;
        }
    }

    /** Places in ORDER, each as its LINE times LINE_SIGNS and its place. */
    private static final class Ranking {
        final State state;
        final int[] spots = new int[MOST_LINES * LINE_SIGNS];
        int size;
        boolean fresh;

        Ranking(State ranked) {
            state = ranked;
        }

        void fill(Signs word) {
            for (int k = 0; k < state.count; k++) {
                Signs signs = state.lines[k].signs;
                for (int place = 0; place < signs.size; place++) {
                    if (signs.has(word, place)) {
                        insert(k, place, word.size);
                    }
                }
            }
        }

        private void insert(int line, int place, int wordSize) {
            if (size >= spots.length) {
                return;
            }
            int low = 0;
            int high = size;
            for (int halving = 0; halving < spots.length && low < high; halving++) {
                int middle = (low + high) / 2;
                Line compared = state.lines[lineOf(middle)];
                if (compared.compare(placeOf(middle), state.lines[line], place, wordSize) < 0) {
                    low = middle + 1;
                } else {
                    high = middle;
                }
            }
            System.arraycopy(spots, low, spots, low + 1, size - low);
            spots[low] = line * LINE_SIGNS + place;
            size++;
        }

        boolean has(int i) {
            return i >= 0 && i < size;
        }

        int lineOf(int i) {
            return spots[i] / LINE_SIGNS;
        }

        int placeOf(int i) {
            return spots[i] % LINE_SIGNS;
        }

        int signsFrom(int i) {
            return state.lines[lineOf(i)].signs.size - placeOf(i);
        }

        int find(int line, int place) {
            for (int i = 0; i < size; i++) {
                if (lineOf(i) == line && placeOf(i) == place) {
                    return i;
                }
            }
            return NONE;
        }

        /** SHARED by the i-th and the next one; NONE where there are no such two. */
        int shared(int i) {
            if (!has(i) || !has(i + 1)) {
                return NONE;
            }
            Signs next = state.lines[lineOf(i + 1)].signs;
            return state.lines[lineOf(i)].signs.shared(placeOf(i), next, placeOf(i + 1));
        }

        int mostShared() {
            int best = NONE;
            int most = 0;
            for (int i = 0; i < size; i++) {
                int shared = shared(i);
                if (shared > most) {
                    most = shared;
                    best = i;
                }
            }
            return best;
        }

        /** Whether the i-th is the first with its n SIGNS: those that have the same stand side by side. */
        boolean opensWord(int i, int n) {
            return signsFrom(i) >= n && shared(i - 1) < n;
        }

        int wordHits(int first, int n) {
            int hits = 1;
            while (first + hits < size && shared(first + hits - 1) >= n) {
                hits++;
            }
            return hits;
        }

        int mostFrequent(int n) {
            int best = NONE;
            int most = 0;
            for (int i = 0; i < size; i++) {
                int hits = opensWord(i, n) ? wordHits(i, n) : 0;
                if (hits > most) {
                    most = hits;
                    best = i;
                }
            }
            return best;
        }
    }

    /** Bytes as they were fed, and the reading of them: a fault is where reading stops. */
    private static final class Tape {
        final int[] bytes = new int[TAPE_BYTES];
        int size;
        private int at;

        boolean append(int four) {
            for (int shift = 24; shift >= 0; shift -= 8) {
                int next = (four >>> shift) & 255;
                if (next != 0) {
                    if (size >= bytes.length) {
                        return false;
                    }
                    bytes[size] = next;
                    size++;
                }
            }
            return true;
        }

        int rowFault(Signs target, int most) {
            at = 0;
            return readSigns(target, most) && peek() == NONE ? NONE : at;
        }

        int storeFault(State target) {
            at = 0;
            target.empty();
            for (int k = 0; k < STORE_LINES; k++) {
                if (!readSigns(target.open(k).signs, LINE_SIGNS)) {
                    return at;
                }
                if (peek() == NONE) {
                    return NONE;
                }
                if (k + 1 == STORE_LINES || !skip(';')) {
                    return at;
                }
            }
            return at;
        }

        int scriptFault(Script target) {
            at = 0;
            for (int i = 0; i < MOST_STEPS; i++) {
                if (!readStep(target.steps[i])) {
                    return at;
                }
                if (peek() == NONE) {
                    target.size = i + 1;
                    return NONE;
                }
                if (i + 1 == MOST_STEPS || !skip(';')) {
                    return at;
                }
            }
            return at;
        }

        private boolean readStep(Step step) {
            int sort = sortOf(peek());
            if (sort == NONE) {
                return false;
            }
            at++;
            step.tell(sort, HIDDEN, HIDDEN);
            if (!peekDigit()) {
                return false;
            }
            step.first = readDigit();
            if (sort == SWAP || sort == LAY || sort == SPLIT) {
                if (!skip(',') || !peekDigit()) {
                    return false;
                }
                step.second = readDigit();
            }
            if (sort == SET || sort == PUT || sort == LAY) {
                return skip(':') && readSigns(step.signs, sort == LAY ? WORD_SIGNS : LINE_SIGNS);
            }
            return true;
        }

        private static int sortOf(int letter) {
            switch (letter) {
                case 'r':
                    return SET;
                case 'i':
                    return PUT;
                case 'd':
                    return TAKE;
                case 's':
                    return SWAP;
                case 'c':
                    return LAY;
                case 'p':
                    return PAGE;
                case 'w':
                    return REWIND;
                case 'b':
                    return SPLIT;
                case 'j':
                    return JOIN;
                default:
                    return NONE;
            }
        }

        /** False if there is no SIGN; what comes behind the most there may be is left to the caller. */
        private boolean readSigns(Signs target, int most) {
            target.size = 0;
            for (int i = 0; i < most && isSign(peek()); i++) {
                target.add(peek());
                at++;
            }
            return target.size > 0;
        }

        private static boolean isSign(int next) {
            return next == '_' || next >= 'a' && next <= 'z';
        }

        private boolean peekDigit() {
            return peek() >= '0' && peek() <= '9';
        }

        private int readDigit() {
            int digit = peek() - '0';
            at++;
            return digit;
        }

        private boolean skip(int expected) {
            if (peek() != expected) {
                return false;
            }
            at++;
            return true;
        }

        /** The next byte that is no blank, NONE at the end: blanks may stand anywhere. */
        private int peek() {
            while (at < size && bytes[at] == BLANK) {
                at++;
            }
            return at < size ? bytes[at] : NONE;
        }
    }
}
