import java.math.BigInteger;
import java.util.function.Consumer;
import java.util.function.ToLongFunction;

/** Edges of WAYS, of what is UNDONE, the LOG, RUNS and IMAGES: promises 29, 31, 32, 36, 37 and 39 to 41. */
final class HistoryEdges extends Edges {
    private static final long FACTOR = 6364136223846793005L;
    private static final long ADDEND = 1442695040888963407L;
    private static final String TWO_LINES = "ab;cd";

    private static void richWithoutTape(KwicStore x) {
        rich(x);
        x.end(0);
    }

    private static void swaps(KwicStore x, int n) {
        for (int i = 0; i < n; i++) {
            x.swap(0, 1);
        }
    }

    // ==== 3

    /** What is asked for ahead of a change is not told behind it: as it is now, as if it had not been asked for. */
    private static void asItIsNow(String name, ToLongFunction<KwicStore> change) {
        KwicStore x = made(HistoryEdges::richWithoutTape);
        KwicStore y = made(HistoryEdges::richWithoutTape);
        hits(x);
        places(x);
        CHECK.due(name + " is done", change.applyAsLong(x) != NONE, true);
        change.applyAsLong(y);
        CHECK.due(name + ": HITS", hits(x), hits(y));
        CHECK.due(name + ": ALL", places(x), places(y));
        CHECK.due(name + ": TWICE", x.twice(1), y.twice(1));
        CHECK.due(name + ": the greatest SHARED", x.most(3), y.most(3));
        CHECK.due(name + ": UNLIKE WORDS", x.unlike(2), y.unlike(2));
        CHECK.due(name + ": FREQUENT", x.frequent(2, 0), y.frequent(2, 0));
        CHECK.due(name + ": FEW", x.few(0, 0), y.few(0, 0));
    }

    /** LINE and place of ALL, in one row. */
    private static int[] places(KwicStore x) {
        int[] places = new int[2 * x.rule(1)];
        for (int i = 0; i < places.length; i++) {
            places[i] = x.all(i / 2, i % 2);
        }
        return places;
    }

    static void terms3_fromAsItIsNow() {
        asItIsNow("SET", x -> Check.set(x, 3, "zabz"));
        asItIsNow("PUT IN", x -> Check.put(x, 0, "ab"));
        asItIsNow("TAKEN", x -> x.take(0));
        asItIsNow("CHANGED", x -> x.swap(1, 3));
        asItIsNow("SPLIT", x -> x.split(3, 1));
        asItIsNow("JOINED", x -> x.join(1));
        asItIsNow("a WORD", x -> Check.word(x, "b"));
        asItIsNow("UNDONE", x -> x.undo());
        asItIsNow("BACK", x -> x.back());
        asItIsNow("WAYS", x -> x.ways(9, 3L));
        asItIsNow("DO", x -> x.perform(0));
        asItIsNow("a STORE", x -> {
            Check.tape(x, "bab;ab");
            return x.text(0);
        });
    }

    // Promise 29: ways

    /** A seed whose draws are these: each as what is drawn of, and the draw. */
    private static long seedOf(int... draws) {
        for (long seed = 0; seed < 5000000; seed++) {
            long x = seed;
            boolean fits = true;
            for (int i = 0; fits && i < draws.length; i += 2) {
                x = x * FACTOR + ADDEND;
                fits = (x >>> 33) % draws[i] == draws[i + 1];
            }
            if (fits) {
                return seed;
            }
        }
        throw new AssertionError("no such seed");
    }

    private static void way(String text, int n, long seed, String lines, int... log) {
        KwicStore x = Check.store(text);
        CHECK.due("all SIGNS", x.ways(n, seed), lines.replace(";", "").length());
        CHECK.dueLines("WAYS", x, lines);
        CHECK.due("the LOG", Check.log(x, 0), log);
        CHECK.due("STATUS", Check.statuses(x), 0, 0, 0, 0);
    }

    /** It is left: no ACT, no STATUS, nothing has changed. */
    private static void left(String name, Consumer<KwicStore> recipe, int... draws) {
        long seed = seedOf(draws);
        asks(name, recipe, x -> x.ways(1, seed), made(recipe).rule(1));
    }

    static void promise29_nFrom1To40() {
        for (int n : new int[] {1, 40}) {
            KwicStore x = Check.store(TWO_LINES);
            Model model = new Model();
            model.call("feed", 0x61623B63, 0x64000000, 0, 0, 0);
            model.call("text", 0);
            CHECK.due("n " + n, x.ways(n, 77L), model.call("ways", n, 77L));
            CHECK.due("the LOG", x.count(3), model.call("count", 3));
            CHECK.due("NUMBERS given", x.count(5), model.call("count", 5));
        }
    }

    static void promise29_nOutOfBounds() {
        for (int n : new int[] {0, 41, -1, MIN, MAX}) {
            asks("ways(" + n + ", 77)", Edges::rich, x -> x.ways(n, 77L), NONE);
        }
    }

    static void promise29_noStore() {
        asks("ways(1, 77)", Edges::withoutStore, x -> x.ways(1, 77L), NONE);
        asks("ways(0, 77)", Edges::withoutStore, x -> x.ways(0, 77L), NONE);
    }

    static void promise29_draws0To2SetALine() {
        way(TWO_LINES, 1, seedOf(8, 0, 2, 1, 6, 0, 3, 2), "ab;_", 0, 1, 3);
        way(TWO_LINES, 1, seedOf(8, 1, 2, 0, 6, 0, 3, 1), "b;cd", 0, 0, 3);
        way(TWO_LINES, 1, seedOf(8, 2, 2, 0, 6, 1, 3, 0, 3, 0), "aa;cd", 0, 0, 4);
    }

    static void promise29_oneToSixSignsAreDrawn() {
        way("cc", 1, seedOf(8, 0, 1, 0, 6, 0, 3, 0), "a", 0, 0, 1);
        way("c", 1, seedOf(8, 0, 1, 0, 6, 5, 3, 0, 3, 1, 3, 2, 3, 2, 3, 1, 3, 0), "ab__ba", 0, 0, 6);
    }

    static void promise29_draw3PutsALineIn() {
        way(TWO_LINES, 1, seedOf(8, 3, 3, 0, 6, 0, 3, 0), "a;ab;cd", 1, 2, 5);
        way(TWO_LINES, 1, seedOf(8, 3, 3, 1, 6, 0, 3, 1), "ab;b;cd", 1, 2, 5);
        way(TWO_LINES, 1, seedOf(8, 3, 3, 2, 6, 0, 3, 2), "ab;cd;_", 1, 2, 5);
    }

    static void promise29_draw4TakesALine() {
        way(TWO_LINES, 1, seedOf(8, 4, 2, 0), "cd", 2, 0, 2);
        way(TWO_LINES, 1, seedOf(8, 4, 2, 1), "ab", 2, 1, 2);
    }

    static void promise29_draw5ChangesTwoLines() {
        way(TWO_LINES, 1, seedOf(8, 5, 2, 0, 2, 1), "cd;ab", 3, 0, 4);
        way(TWO_LINES, 1, seedOf(8, 5, 2, 1, 2, 0), "cd;ab", 3, 1, 4);
    }

    private static void cursors(KwicStore x) {
        Check.tape(x, "xa;xb;xc");
        x.text(0);
        Check.word(x, "x");
        for (int cursor = 0; cursor < 3; cursor++) {
            x.lay(cursor, 1);
            x.page(cursor);
        }
    }

    static void promise29_draw6IsAPage() {
        for (int cursor = 0; cursor <= 2; cursor++) {
            KwicStore x = made(HistoryEdges::cursors);
            CHECK.due("all SIGNS", x.ways(1, seedOf(8, 6, 3, cursor)), 6);
            CHECK.due("told", Check.told(x, cursor), 1, 0);
            CHECK.due("the LOG", Check.log(x, 0), 5, cursor, 6);
        }
    }

    static void promise29_draw7Rewinds() {
        for (int cursor = 0; cursor <= 2; cursor++) {
            KwicStore x = made(HistoryEdges::cursors);
            CHECK.due("all SIGNS", x.ways(1, seedOf(8, 7, 3, cursor)), 6);
            CHECK.due("no MARK", x.cursor(cursor, 5), 0);
            CHECK.due("the LOG", Check.log(x, 0), 6, cursor, 6);
        }
    }

    static void promise29_whatCantBeIsLeft() {
        left("SET, as it is", store("a;b"), 8, 0, 2, 0, 6, 0, 3, 0);
        left("PUT IN, ten LINES", Edges::tenLines, 8, 3, 11, 4, 6, 0, 3, 0);
        left("TAKEN, the only one", store("ab"), 8, 4, 1, 0);
        left("CHANGED, both are one", Edges::rich, 8, 5, 4, 2, 4, 2);
        left("a PAGE, it is none", Edges::rich, 8, 6, 3, 1);
        left("REWOUND, it is none", Edges::rich, 8, 7, 3, 2);
        left("REWOUND, no MARK", storeWithWord("ab", "a").andThen(x -> x.lay(0, 1)), 8, 7, 3, 0);
    }

    static void promise29_itGoesOnBehindWhatCantBe() {
        way("ab", 2, seedOf(8, 4, 1, 0, 8, 3, 2, 1, 6, 0, 3, 1), "ab;b", 1, 1, 3);
        long putToTen = seedOf(8, 3, 11, 4, 6, 1, 3, 0, 3, 1, 8, 4, 10, 9);
        KwicStore x = made(Edges::tenLines);
        CHECK.due("PUT IN is left with all its draws", x.ways(2, putToTen), 28);
        CHECK.due("the tenth is TAKEN", Check.log(x, 0), 2, 9, 28);
    }

    static void promise29_theDrawsGoOn() {
        long seed = seedOf(8, 4, 2, 0, 8, 0, 1, 0, 6, 0, 3, 1);
        way(TWO_LINES, 1, seed, "cd", 2, 0, 2);
        way(TWO_LINES, 2, seed, "b", 0, 1, 1);
    }

    private static BigInteger drawn;

    /** Once more with numbers that don't go round by themselves. */
    private static int draw(int j) {
        BigInteger round = BigInteger.ONE.shiftLeft(64);
        drawn = drawn.multiply(BigInteger.valueOf(FACTOR)).add(BigInteger.valueOf(ADDEND)).mod(round);
        return drawn.shiftRight(33).mod(BigInteger.valueOf(j)).intValue();
    }

    private static void byHand(KwicStore x) {
        int lines = x.count(0);
        int sort = draw(8);
        if (sort <= 3) {
            int k = draw(sort == 3 ? lines + 1 : lines);
            StringBuilder signs = new StringBuilder();
            for (int i = draw(6) + 1; i > 0; i--) {
                signs.append("ab_".charAt(draw(3)));
            }
            Check.tape(x, signs.toString());
            CHECK.due("by hand", sort == 3 ? x.put(k) >= NONE : x.set(k) >= NONE, true);
        } else if (sort == 4) {
            x.take(draw(lines));
        } else if (sort == 5) {
            int k = draw(lines);
            x.swap(k, draw(lines));
        } else if (sort == 6) {
            x.page(draw(3));
        } else {
            x.rewind(draw(3));
        }
    }

    static void promise29_64BitsGoingRound() {
        for (long seed : new long[] {0, 1, -1, Long.MIN_VALUE, Long.MAX_VALUE, 1L << 32, 1L << 33, -ADDEND}) {
            KwicStore x = made(HistoryEdges::cursors);
            KwicStore y = made(HistoryEdges::cursors);
            x.ways(40, seed);
            drawn = BigInteger.valueOf(seed);
            for (int i = 0; i < 40; i++) {
                byHand(y);
            }
            CHECK.dueLines("WAYS by " + seed, x, Check.lines(y));
            CHECK.due("numbers", Check.numbers(x), Check.numbers(y));
            CHECK.due("the LOG", x.count(3), y.count(3));
            for (int i = 0; i < x.count(3); i++) {
                CHECK.due("LOG " + i, Check.log(x, i), Check.log(y, i));
            }
            for (int cursor = 0; cursor < 3; cursor++) {
                CHECK.due("told", Check.told(x, cursor), Check.told(y, cursor));
            }
        }
    }

    static void promise29_eachIsAnAct() {
        long seed = seedOf(8, 4, 2, 0, 8, 3, 2, 1, 6, 0, 3, 0, 8, 5, 2, 0, 2, 1);
        KwicStore x = Check.store(TWO_LINES);
        x.ways(3, seed);
        CHECK.dueLines("WAYS", x, "a;cd");
        CHECK.due("the LOG", x.count(3), 3);
        CHECK.due("undo", x.undo(), 2);
        CHECK.dueLines("undo", x, "cd;a");
        CHECK.due("undo", x.undo(), 1);
        CHECK.dueLines("undo", x, "cd");
        CHECK.due("undo", x.undo(), 0);
        CHECK.dueLines("undo", x, TWO_LINES);
    }

    static void promise29_theTapeAndTheWordStay() {
        KwicStore x = made(Edges::rich);
        x.ways(40, 5L);
        CHECK.due("bytes", x.count(2), 3);
        CHECK.due("the WORD", x.rule(3), 2);
        CHECK.due("STATUS", Check.statuses(x), 1, 0, 0, 0);
    }

    // Promise 31: undo

    static void promise31_noneToBeUndone() {
        asks("no STORE", Edges::withoutStore, x -> x.undo(), NONE);
        asks("no ACT", storeWithWord("a", "a"), x -> x.undo(), NONE);
        asks("all UNDONE", store(TWO_LINES).andThen(x -> {
            x.swap(0, 1);
            x.undo();
        }), x -> x.undo(), NONE);
    }

    /** An ACT and its undoing leave all as it was, what can be UNDONE too. */
    private static void undone(String name, ToLongFunction<KwicStore> act) {
        CHECK.due(name + " is done", act.applyAsLong(made(HistoryEdges::richWithoutTape)) != NONE, true);
        asks(name, HistoryEdges::richWithoutTape, x -> {
            act.applyAsLong(x);
            return x.undo();
        }, 4);
    }

    static void promise31_eachSortOfAct() {
        undone("SET", x -> Check.set(x, 3, TWENTY));
        undone("PUT IN", x -> Check.put(x, 0, "zz"));
        undone("PUT IN behind all", x -> Check.put(x, 4, "zz"));
        undone("TAKEN", x -> x.take(0));
        undone("TAKEN, the last", x -> x.take(3));
        undone("CHANGED", x -> x.swap(1, 3));
        undone("laid", x -> x.lay(2, 9));
        undone("laid anew", x -> x.lay(0, 9));
        undone("a PAGE", x -> x.page(0));
        undone("REWOUND", x -> x.rewind(0));
        undone("SPLIT", x -> x.split(3, 2));
        undone("JOINED", x -> x.join(1));
    }

    static void promise31_theCursorsWordAndSize() {
        KwicStore x = made(storeWithWord("xxa;yb", "x"));
        x.lay(0, 1);
        Check.word(x, "yb");
        x.lay(0, 2);
        x.undo();
        CHECK.due("SIGNS of its WORD", x.cursor(0, 1), 1);
        CHECK.due("its SIZE", x.cursor(0, 0), 1);
        CHECK.due("LEFT", x.cursor(0, 4), 2);
        x.page(0);
        CHECK.due("told", Check.told(x, 0), 0, 1);
    }

    static void promise31_theCursorsMarkAndPage() {
        KwicStore x = made(storeWithWord("xa;bxb;aaxc;xd", "x"));
        x.lay(0, 1);
        x.page(0);
        x.page(0);
        x.page(0);
        CHECK.due("told", Check.told(x, 0), 2, 2);
        x.undo();
        CHECK.due("told", Check.told(x, 0), 1, 1);
        CHECK.due("LEFT", x.cursor(0, 4), 2);
        CHECK.due("all on PAGES", x.cursor(0, 3), 2);
        x.undo();
        CHECK.due("told", Check.told(x, 0), 0, 0);
        CHECK.due("LEFT", x.cursor(0, 4), 3);
        x.undo();
        CHECK.due("no MARK", x.cursor(0, 5), 0);
        CHECK.due("LEFT", x.cursor(0, 4), 4);
    }

    static void promise31_whatWasRefusedIsNoAct() {
        KwicStore x = Check.store(TWO_LINES);
        x.swap(0, 1);
        x.take(7);
        CHECK.due("undo", x.undo(), 0);
        CHECK.dueLines("undo", x, TWO_LINES);
    }

    static void promise31_fortyCanBeUndone() {
        KwicStore x = Check.store(TWO_LINES);
        swaps(x, 39);
        CHECK.due("at 39", x.count(4), 39);
        swaps(x, 1);
        CHECK.due("at 40", x.count(4), 40);
        for (int i = 39; i >= 0; i--) {
            CHECK.due("undo", x.undo(), i);
        }
        CHECK.due("no more", x.undo(), NONE);
        CHECK.dueLines("undo", x, TWO_LINES);
        CHECK.due("the LOG", x.count(3), 0);
    }

    static void promise31_theFortyFirstCantBe() {
        KwicStore x = Check.store(TWO_LINES);
        swaps(x, 41);
        CHECK.due("at 41", x.count(4), 40);
        for (int i = 39; i >= 0; i--) {
            CHECK.due("undo", x.undo(), i);
        }
        CHECK.due("no more", x.undo(), NONE);
        CHECK.dueLines("the first stays", x, "cd;ab");
        CHECK.due("the LOG", x.count(3), 1);
    }

    /** The LINE's length tells how many ACTS are done: 1 SIGN, 2 .. 20, 1 .. */
    private static void grow(KwicStore x, int from, int to) {
        for (int i = from; i < to; i++) {
            Check.set(x, 0, TWENTY.substring(0, 1 + i % 20));
        }
    }

    static void promise31_behindWhatWasUndone() {
        KwicStore x = Check.store("ab;z");
        grow(x, 0, 50);
        for (int i = 0; i < 15; i++) {
            x.undo();
        }
        CHECK.due("behind 35", x.line(0, 1), 15);
        CHECK.due("how many", x.count(4), 25);
        grow(x, 35, 43);
        CHECK.due("how many", x.count(4), 33);
        grow(x, 43, 60);
        CHECK.due("forty again", x.count(4), 40);
        for (int i = 59; i >= 20; i--) {
            CHECK.due("undo", x.undo(), i - 20);
            CHECK.due("behind " + i, x.line(0, 1), 1 + (i - 1) % 20);
        }
        CHECK.due("no more", x.undo(), NONE);
    }

    static void promise31_theLogToo() {
        KwicStore x = Check.store(TWO_LINES);
        x.swap(0, 1);
        x.take(0);
        x.undo();
        CHECK.due("how long", x.count(3), 1);
        CHECK.due("the latest", Check.log(x, 0), 3, 0, 4);
        CHECK.due("no more", x.log(1, 0), HIDDEN);
    }

    static void promise31_theFullLogToo() {
        KwicStore x = Check.store("cb;z");
        x.split(0, 1);
        x.join(1);
        grow(x, 0, 58);
        CHECK.due("the first", Check.log(x, 59), 7, 0, 3);
        CHECK.due("the second", Check.log(x, 58), 8, 2, 3);
        x.swap(1, 0);
        x.swap(1, 0);
        CHECK.due("both are pushed out", Check.log(x, 59), 0, 0, 3);
        x.undo();
        x.undo();
        CHECK.due("how long", x.count(3), 60);
        CHECK.due("the latest", Check.log(x, 0), 0, 0, 20);
        CHECK.due("the second", Check.log(x, 58), 8, 2, 3);
        CHECK.due("the first", Check.log(x, 59), 7, 0, 3);
    }

    static void promise31_numbersAreGivenAgain() {
        KwicStore x = Check.store(TWO_LINES);
        CHECK.due("put", Check.put(x, 0, "x"), 2);
        x.undo();
        CHECK.due("NUMBERS given", x.count(5), 2);
        CHECK.due("put", Check.put(x, 0, "y"), 2);
    }

    static void promise31_theImageStays() {
        KwicStore x = made(Edges::rich);
        while (x.undo() != NONE) {
            CHECK.due("ACTS that can be UNDONE", x.count(4) < 4, true);
        }
        CHECK.due("BACK", x.back(), 13);
        CHECK.dueLines("BACK", x, "abab;aab;ba_b;ab");
    }

    // Promise 32: log

    static void promise32_emptyAtFirst() {
        CHECK.due("no STORE", new KwicStore().log(0, 0), HIDDEN);
        CHECK.due("no ACT", Check.store("a").log(0, 0), HIDDEN);
    }

    static void promise32_noSuchOne() {
        for (int i : new int[] {-1, 4, 60, MIN, MAX}) {
            asks("log(" + i + ", 0)", Edges::rich, x -> x.log(i, 0), HIDDEN);
        }
        CHECK.due("the first", Check.log(made(Edges::rich), 3), 4, 0, 10);
    }

    static void promise32_noSuchWhat() {
        for (int what : new int[] {-1, 3, MIN, MAX}) {
            asks("log(0, " + what + ")", Edges::rich, x -> x.log(0, what), HIDDEN);
        }
    }

    static void promise32_eachSortOfAct() {
        KwicStore x = Check.store("abx;c;de");
        Check.word(x, "x");
        Check.set(x, 1, "cc");
        CHECK.due("SET", Check.log(x, 0), 0, 1, 7);
        Check.put(x, 0, "f");
        CHECK.due("PUT IN", Check.log(x, 0), 1, 3, 8);
        x.take(2);
        CHECK.due("TAKEN", Check.log(x, 0), 2, 1, 6);
        x.swap(2, 0);
        CHECK.due("CHANGED: of the first one", Check.log(x, 0), 3, 2, 6);
        x.lay(2, 1);
        CHECK.due("laid", Check.log(x, 0), 4, 2, 6);
        x.page(2);
        CHECK.due("a PAGE", Check.log(x, 0), 5, 2, 6);
        x.rewind(2);
        CHECK.due("REWOUND", Check.log(x, 0), 6, 2, 6);
        x.split(1, 2);
        CHECK.due("SPLIT: of the LINE, not of the new one", Check.log(x, 0), 7, 0, 6);
        x.join(2);
        CHECK.due("JOINED: of the first one", Check.log(x, 0), 8, 4, 6);
        CHECK.due("how long", x.count(3), 9);
        CHECK.due("the first is as it was then", Check.log(x, 8), 0, 1, 7);
    }

    static void promise32_whatIsRefusedIsNotInIt() {
        KwicStore x = made(Edges::rich);
        x.take(9);
        x.split(0, 0);
        x.swap(1, 1);
        CHECK.due("how long", x.count(3), 4);
    }

    static void promise32_theLatestSixty() {
        KwicStore x = Check.store("ab;z");
        grow(x, 0, 60);
        CHECK.due("sixty", x.count(3), 60);
        CHECK.due("the latest", Check.log(x, 0), 0, 0, 21);
        CHECK.due("the first", Check.log(x, 59), 0, 0, 2);
        CHECK.due("no more", x.log(60, 0), HIDDEN);
    }

    static void promise32_theSixtyFirstPushesTheFirstOut() {
        KwicStore x = Check.store("ab;z");
        grow(x, 0, 61);
        CHECK.due("sixty", x.count(3), 60);
        CHECK.due("the latest", Check.log(x, 0), 0, 0, 2);
        CHECK.due("the one ahead of it", Check.log(x, 1), 0, 0, 21);
        CHECK.due("the second is the first now", Check.log(x, 59), 0, 0, 3);
        CHECK.due("no more", x.log(60, 2), HIDDEN);
    }

    static void promise32_roundTwice() {
        KwicStore x = Check.store("ab;z");
        grow(x, 0, 125);
        for (int i = 0; i < 60; i++) {
            CHECK.due("LOG " + i, x.log(i, 2), 2 + (124 - i) % 20);
        }
    }

    /** Up to three times as many as it keeps: the k-th ACT sets the only LINE to k modulo 11, plus 1, SIGNS. */
    static void promise32_howeverManyCame() {
        StringBuilder eleven = new StringBuilder();
        for (int size = 1; size <= 11; size++) {
            eleven.append(size == 1 ? "" : ";").append("r0:").append("a".repeat(size));
        }
        for (int acts = 0; acts <= 185; acts++) {
            KwicStore x = Check.store("z");
            Check.script(x, eleven.toString());
            for (int i = 0; i < acts / 11; i++) {
                x.perform(0);
            }
            for (int size = 1; size <= acts % 11; size++) {
                Check.set(x, 0, "a".repeat(size));
            }
            int kept = Math.min(60, acts);
            CHECK.due("the LOG of " + acts + " ACTS", x.count(3), kept);
            for (int i = 0; i < kept; i++) {
                CHECK.due("LOG " + i + " of " + acts, x.log(i, 2), (acts - 1 - i) % 11 + 1);
            }
            CHECK.due("LOG " + kept + " of " + acts, x.log(kept, 2), HIDDEN);
        }
    }

    // Promise 36: run

    /** STEPS of which the last can't be, or all can be: what RUN and DO answer. */
    private static void runs(Consumer<KwicStore> recipe, String steps, int want) {
        Consumer<KwicStore> withScript = recipe.andThen(x -> Check.script(x, steps));
        int script = made(recipe).count(1);
        asks("run of " + steps, withScript, x -> x.run(script, 0), want);
        KwicStore x = made(withScript);
        int[] status = Check.statuses(x);
        int log = x.count(3);
        int signs = x.run(script, 1);
        int done = want == NONE ? steps.split(";").length : want;
        CHECK.due("perform of " + steps, x.perform(script), done);
        CHECK.due("all SIGNS behind " + steps, x.rule(1), signs);
        CHECK.due("the LOG", x.count(3), Math.min(60, log + done));
        CHECK.due("no STATUS", Check.statuses(x), status);
    }

    static void promise36_set() {
        runs(Edges::rich, "r3:z", NONE);
        runs(Edges::rich, "r4:z", 0);
        runs(Edges::rich, "r0:ab", 0);
        runs(Edges::rich, "r0:a;r0:a", 1);
        runs(Edges::rich, "r0:" + TWENTY, NONE);
    }

    static void promise36_put() {
        runs(Edges::rich, "i0:z;i5:z", NONE);
        runs(Edges::rich, "i5:z", 0);
        runs(Edges::rich, "i0:z;i0:z;i0:z;i0:z;i0:z;i9:z", NONE);
        runs(Edges::rich, "i0:z;i0:z;i0:z;i0:z;i0:z;i0:z;i0:z", 6);
        runs(Edges::tenLines, "d0;i9:z;i0:z", 2);
    }

    static void promise36_take() {
        runs(Edges::rich, "d3", NONE);
        runs(Edges::rich, "d4", 0);
        runs(Edges::rich, "d0;d0;d0;d0", 3);
        runs(Edges::tenLines, "d9;d9", 1);
    }

    static void promise36_swap() {
        runs(Edges::rich, "s3,0;s0,3", NONE);
        runs(Edges::rich, "s4,0", 0);
        runs(Edges::rich, "s0,4", 0);
        runs(Edges::rich, "s2,2", 0);
        runs(Edges::tenLines, "s9,0", NONE);
    }

    static void promise36_cursors() {
        runs(Edges::rich, "c2,9:zz", NONE);
        runs(Edges::rich, "c0,1:a;c1,9:b", NONE);
        runs(Edges::rich, "c3,1:a", 0);
        runs(Edges::rich, "c0,0:a", 0);
        runs(Edges::rich, "p0;p0;p0", NONE);
        runs(Edges::rich, "p1", 0);
        runs(Edges::rich, "p3", 0);
        runs(Edges::rich, "w0;w0", 1);
        runs(Edges::rich, "w1", 0);
        runs(Edges::rich, "w3", 0);
        runs(Edges::rich, "c1,1:a;w1", 1);
        runs(Edges::rich, "c1,1:a;p1;w1", NONE);
        runs(Edges::rich, "c1,1:zz;p1;w1", 2);
        runs(store("a"), "c0,1:a", NONE);
    }

    static void promise36_splitAndJoin() {
        runs(Edges::rich, "b3,1;b4,2", NONE);
        runs(Edges::rich, "b3,3", NONE);
        runs(Edges::rich, "b3,0", 0);
        runs(Edges::rich, "b3,4", 0);
        runs(Edges::rich, "b4,1", 0);
        runs(Edges::tenLines, "b8,9", 0);
        runs(Edges::tenLines, "d0;b8,1;b7,1", 2);
        runs(Edges::rich, "j2;j1;j0", NONE);
        runs(Edges::rich, "j3", 0);
        runs(Edges::rich, "j4", 0);
        runs(Edges::tenLines, "j8", 0);
        runs(store("a".repeat(18) + ";bc"), "j0", NONE);
    }

    static void promise36_oneStepAndTwelve() {
        String eleven = "s0,1;s0,1;s0,1;s0,1;s0,1;s0,1;s0,1;s0,1;s0,1;s0,1;s0,1;";
        runs(Edges::rich, "s0,1", NONE);
        runs(Edges::rich, eleven + "d3", NONE);
        runs(Edges::rich, eleven + "d4", 11);
    }

    static void promise36_allSignsBehindThese() {
        KwicStore x = Check.store(TWO_LINES);
        Check.script(x, "d9;d0");
        CHECK.due("behind none", x.run(0, 1), 4);
        Check.script(x, "d0;d0");
        CHECK.due("behind one", x.run(1, 1), 2);
        Check.script(x, "r0:x;i0:" + TWENTY);
        CHECK.due("behind all", x.run(2, 1), 23);
    }

    static void promise36_noSuchScript() {
        for (int script : new int[] {-1, 1, 4, MIN, MAX}) {
            asks("run(" + script + ", 0)", Edges::rich, x -> x.run(script, 0), HIDDEN);
            asks("run(" + script + ", 1)", Edges::rich, x -> x.run(script, 1), HIDDEN);
        }
    }

    static void promise36_noStore() {
        asks("run(0, 0)", Edges::withoutStore, x -> x.run(0, 0), HIDDEN);
        asks("run(0, 1)", Edges::withoutStore, x -> x.run(0, 1), HIDDEN);
    }

    static void promise36_noSuchWhat() {
        for (int what : new int[] {-1, 2, MIN, MAX}) {
            asks("run(0, " + what + ")", Edges::rich, x -> x.run(0, what), HIDDEN);
        }
    }

    // Promise 37: perform

    static void promise37_noSuchScript() {
        for (int script : new int[] {-1, 1, 4, MIN, MAX}) {
            asks("perform(" + script + ")", Edges::rich, x -> x.perform(script), NONE);
        }
    }

    static void promise37_noStore() {
        asks("perform(0)", Edges::withoutStore, x -> x.perform(0), NONE);
    }

    static void promise37_noneIsDone() {
        asks("perform(1)", x -> {
            rich(x);
            Check.script(x, "d4;d0");
        }, x -> x.perform(1), 0);
    }

    static void promise37_upToTheFirstThatCantBe() {
        KwicStore x = Check.store(TWO_LINES);
        Check.script(x, "d0;d0;r0:z");
        CHECK.due("one", x.perform(0), 1);
        CHECK.dueLines("perform", x, "cd");
        CHECK.due("the LOG", x.count(3), 1);
        CHECK.due("ACTS that can be UNDONE", x.count(4), 1);
        CHECK.due("STATUS", Check.statuses(x), 0, 0, 0, 0);
    }

    static void promise37_allTwelve() {
        KwicStore x = Check.store(TWO_LINES);
        Check.script(x, "i0:x;s0,2;d1;c2,1:c;p2;w2;r0:yz;b0,1;j0;i2:_;j1;s1,0");
        CHECK.due("twelve", x.perform(0), 12);
        CHECK.dueLines("perform", x, "x_;yz");
        CHECK.due("the LOG", x.count(3), 12);
        CHECK.due("undo", x.undo(), 11);
        CHECK.dueLines("undo", x, "yz;x_");
        CHECK.due("once more: no HIT, no MARK, so it can't be REWOUND", x.perform(0), 5);
    }

    static void promise37_theTapeAndTheWordStay() {
        KwicStore x = made(Edges::rich);
        CHECK.due("all three", x.perform(0), 3);
        CHECK.due("bytes", x.count(2), 3);
        CHECK.due("the WORD", x.rule(3), 2);
        CHECK.due("HITS as they are now", x.rule(2), 3);
    }

    static void promise37_fortyStepsCanBeUndone() {
        KwicStore x = Check.store(TWO_LINES);
        Check.script(x, "s0,1;s0,1;s0,1;s0,1;s0,1;s0,1;s0,1;s0,1;s0,1;s0,1;s0,1");
        for (int i = 0; i < 4; i++) {
            x.perform(0);
        }
        CHECK.due("ACTS that can be UNDONE", x.count(4), 40);
        CHECK.due("the LOG", x.count(3), 44);
        x.perform(0);
        x.perform(0);
        CHECK.due("the LOG", x.count(3), 60);
    }

    // Promise 39: image

    static void promise39_noStore() {
        asks("image()", Edges::withoutStore, x -> x.image(), NONE);
        KwicStore x = made(Edges::withoutStore);
        x.image();
        x.text(0);
        CHECK.due("no IMAGE of this STORE", x.back(), NONE);
    }

    static void promise39_insteadOfTheOneAhead() {
        KwicStore x = Check.store(TWO_LINES);
        CHECK.due("an IMAGE", x.image(), 4);
        x.take(0);
        CHECK.due("another one", x.image(), 2);
        Check.put(x, 0, "xyz");
        CHECK.due("BACK", x.back(), 2);
        CHECK.dueLines("BACK", x, "cd");
        CHECK.due("BACK once more", x.back(), 2);
    }

    static void promise39_itIsNoActAndChangesNothingElse() {
        KwicStore x = made(Edges::rich);
        KwicStore y = made(Edges::rich);
        CHECK.due("all SIGNS", x.image(), 13);
        for (int what = 0; what <= 5; what++) {
            CHECK.due("count(" + what + ")", x.count(what), y.count(what));
        }
        CHECK.due("STATUS", Check.statuses(x), Check.statuses(y));
        CHECK.due("undo", x.undo(), y.undo());
        CHECK.dueLines("undo", x, Check.lines(y));
    }

    static void promise39_theLeastAndTheMost() {
        CHECK.due("one SIGN", Check.store("a").image(), 1);
        CHECK.due("two hundred", made(Edges::full).image(), 200);
    }

    // Promise 40: back

    static void promise40_noImage() {
        asks("no STORE", Edges::withoutStore, x -> x.back(), NONE);
        asks("no IMAGE", x -> {
            Check.tape(x, TWO_LINES);
            x.text(0);
            x.swap(0, 1);
        }, x -> x.back(), NONE);
    }

    static void promise40_noImageOfThisStore() {
        asks("another STORE", x -> {
            rich(x);
            Check.tape(x, "z;y");
            x.text(0);
            x.swap(0, 1);
        }, x -> x.back(), NONE);
        KwicStore x = made(Edges::rich);
        Check.tape(x, "abab;ba_b;ab");
        x.text(0);
        CHECK.due("a like one", x.back(), NONE);
    }

    static void promise40_theImageOutlivesAStoreThatIsRefused() {
        KwicStore x = made(Edges::rich);
        Check.tape(x, "a;?");
        x.text(0);
        CHECK.due("BACK", x.back(), 13);
        CHECK.dueLines("BACK", x, "abab;aab;ba_b;ab");
    }

    static void promise40_allThatActsChangeIsSoAgain() {
        KwicStore x = made(Edges::rich);
        x.take(0);
        x.page(0);
        Check.word(x, "a");
        x.lay(2, 9);
        x.split(0, 1);
        CHECK.due("BACK", x.back(), 13);
        CHECK.dueLines("BACK", x, "abab;aab;ba_b;ab");
        CHECK.due("numbers", Check.numbers(x), 0, 3, 1, 2);
        CHECK.due("NUMBERS given", x.count(5), 4);
        CHECK.due("CURSORS", x.most(5), 1);
        CHECK.due("told", Check.told(x, 0), 2, 0, 0, 2);
        CHECK.due("its MARK: behind it is the first of abab alone", x.cursor(0, 4), 1);
        CHECK.due("how long the LOG is", x.count(3), 3);
        CHECK.due("its latest", Check.log(x, 0), 1, 3, 13);
    }

    static void promise40_noActCanBeUndoneThen() {
        KwicStore x = made(Edges::rich);
        x.back();
        CHECK.due("how many", x.count(4), 0);
        CHECK.due("undo", x.undo(), NONE);
        x.swap(0, 1);
        CHECK.due("one", x.count(4), 1);
        CHECK.due("undo", x.undo(), 0);
        CHECK.due("undo", x.undo(), NONE);
        CHECK.dueLines("undo", x, "abab;aab;ba_b;ab");
    }

    static void promise40_whatIsNotChangedByActsStays() {
        KwicStore x = made(Edges::rich);
        Check.word(x, "a");
        Check.script(x, "d0");
        x.take(9);
        Check.tape(x, "zz");
        x.back();
        CHECK.due("the WORD", x.rule(3), 1);
        CHECK.due("SCRIPTS", x.count(1), 2);
        CHECK.due("STATUS", Check.statuses(x), 2, 0, 0, 0);
        CHECK.due("bytes", x.count(2), 2);
    }

    static void promise40_atTheImageItself() {
        KwicStore x = Check.store(TWO_LINES);
        x.swap(0, 1);
        x.image();
        CHECK.due("BACK", x.back(), 4);
        CHECK.dueLines("BACK", x, "cd;ab");
        CHECK.due("the LOG", x.count(3), 1);
        CHECK.due("none to be UNDONE", x.count(4), 0);
    }

    // Promise 41: count

    static void promise41_noneAtFirst() {
        KwicStore x = new KwicStore();
        for (int what = 0; what <= 5; what++) {
            CHECK.due("count(" + what + ")", x.count(what), 0);
        }
    }

    static void promise41_others() {
        for (int what : new int[] {-1, 6, MIN, MAX}) {
            asks("count(" + what + ")", Edges::rich, x -> x.count(what), HIDDEN);
            asks("no STORE: count(" + what + ")", Edges::withoutStore, x -> x.count(what), HIDDEN);
        }
    }

    static void promise41_theMostThereCanBe() {
        KwicStore x = made(Edges::tenLines);
        for (int i = 0; i < 5; i++) {
            Check.script(x, "d0");
        }
        swaps(x, 60);
        Check.tape(x, "a".repeat(240));
        int[] want = {10, 4, 240, 60, 40, 10};
        for (int what = 0; what <= 5; what++) {
            CHECK.due("count(" + what + ")", x.count(what), want[what]);
        }
    }

    static void promise41_numbersGivenStayWhenLinesAreGone() {
        KwicStore x = Check.store(EIGHT_LINES);
        while (x.take(0) != NONE) {
            CHECK.due("NUMBERS given", x.count(5), 8);
        }
        CHECK.due("LINES", x.count(0), 1);
        CHECK.due("NUMBERS given", x.count(5), 8);
    }
}
