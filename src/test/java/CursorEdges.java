import java.util.function.Consumer;

/** Edges of CURSORS and their PAGES (==== 2 of the terms) and of promises 22 to 26. */
final class CursorEdges extends Edges {
    private static final int[] NO_CURSOR = {-1, 3, MIN, MAX};

    /** As many HITS of x as told, each in a LINE of its own, by rising NUMBERS. */
    private static Consumer<KwicStore> withHits(int hits) {
        return x -> {
            Check.tape(x, "q");
            x.text(0);
            for (int i = 0; i < hits; i++) {
                Check.put(x, x.count(0), "x" + (char) ('a' + i));
            }
            Check.word(x, "x");
        };
    }

    // ==== 2

    static void terms2_noneIsToldTwiceAndNoneLeftOut() {
        KwicStore x = made(storeWithWord("xb;xd;xf", "x"));
        x.lay(0, 1);
        x.page(0);
        CHECK.due("the first", Check.told(x, 0), 0, 0);
        x.swap(0, 2);
        Check.put(x, 0, "xa");
        Check.put(x, 0, "xc");
        x.page(0);
        CHECK.due("what was PUT IN behind the MARK", Check.told(x, 0), 4, 0);
        x.take(x.count(0) - 1);
        x.page(0);
        CHECK.due("the next", Check.told(x, 0), 1, 0);
        x.page(0);
        CHECK.due("the last", Check.told(x, 0), 2, 0);
        CHECK.due("no more", x.page(0), 0);
    }

    static void terms2_theMarkIsAsItWas() {
        KwicStore x = made(storeWithWord("xb;xd;xf", "x"));
        x.lay(0, 2);
        x.page(0);
        x.take(1);
        CHECK.due("its LINE is gone", x.cursor(0, 4), 1);
        Check.set(x, 0, "xe");
        CHECK.due("one that was told is SET behind it", x.cursor(0, 4), 2);
        Check.set(x, 0, "xc");
        CHECK.due("and ahead of it", x.cursor(0, 4), 1);
    }

    static void terms2_likeTheMarkButForItsNumber() {
        KwicStore x = made(storeWithWord("q;xd;q", "x"));
        x.lay(0, 1);
        x.page(0);
        Check.set(x, 0, "xd");
        CHECK.due("a lesser NUMBER", x.cursor(0, 4), 0);
        Check.set(x, 2, "xd");
        CHECK.due("a greater NUMBER", x.cursor(0, 4), 1);
        x.page(0);
        CHECK.due("told", Check.told(x, 0), 2, 0);
    }

    static void terms2_likeTheMarkButForWhatIsAhead() {
        KwicStore x = made(storeWithWord("bxd;q", "x"));
        x.lay(0, 1);
        x.page(0);
        Check.set(x, 1, "axd");
        CHECK.due("less", x.cursor(0, 4), 0);
        Check.set(x, 1, "xd");
        CHECK.due("what ends is less", x.cursor(0, 4), 0);
        Check.set(x, 1, "abxd");
        CHECK.due("greater", x.cursor(0, 4), 1);
    }

    static void terms2_theMarkItselfIsNotBehindIt() {
        KwicStore x = made(storeWithWord("xd", "x"));
        x.lay(0, 1);
        x.page(0);
        CHECK.due("LEFT", x.cursor(0, 4), 0);
        CHECK.due("page", x.page(0), 0);
    }

    static void terms2_threeCursorsApart() {
        KwicStore x = made(storeWithWord("xa;xb;y", "x"));
        x.lay(0, 1);
        x.lay(1, 2);
        Check.word(x, "y");
        x.lay(2, 9);
        x.page(1);
        CHECK.due("0", Check.told(x, 0));
        CHECK.due("1", Check.told(x, 1), 0, 0, 1, 0);
        CHECK.due("2", Check.told(x, 2));
        x.page(2);
        CHECK.due("2", Check.told(x, 2), 2, 0);
        CHECK.due("LEFT of 0", x.cursor(0, 4), 2);
        CHECK.due("LEFT of 1", x.cursor(1, 4), 0);
    }

    // Promise 22: lay

    static void promise22_cursorsFrom0To2() {
        KwicStore x = made(withHits(3));
        for (int cursor = 0; cursor <= 2; cursor++) {
            CHECK.due("lay(" + cursor + ", 1)", x.lay(cursor, 1), 3);
            CHECK.due("SIZE", x.cursor(cursor, 0), 1);
        }
    }

    static void promise22_noSuchCursor() {
        for (int cursor : NO_CURSOR) {
            refused(0, "lay(" + cursor + ", 1)", Edges::rich, x -> x.lay(cursor, 1));
        }
    }

    static void promise22_noStore() {
        refused(0, "lay(0, 1)", Edges::withoutStore, x -> x.lay(0, 1));
    }

    static void promise22_sizesFrom1To9() {
        KwicStore x = made(withHits(2));
        for (int size = 1; size <= 9; size++) {
            CHECK.due("lay(1, " + size + ")", x.lay(1, size), 2);
            CHECK.due("SIZE", x.cursor(1, 0), size);
        }
    }

    static void promise22_sizeOutOfBounds() {
        for (int size : new int[] {0, 10, -1, MIN, MAX}) {
            refused(1, "lay(0, " + size + ")", Edges::rich, x -> x.lay(0, size));
            refused(1, "lay(2, " + size + ")", Edges::rich, x -> x.lay(2, size));
        }
    }

    static void promise22_noWordInHand() {
        refused(1, "lay(0, 1)", store("a;b"), x -> x.lay(0, 1));
        refused(1, "lay(2, 9)", store("a;b"), x -> x.lay(2, 9));
    }

    static void promise22_ofSeveralTheFirst() {
        refused(0, "no such CURSOR, no such SIZE", Edges::rich, x -> x.lay(3, 0));
        refused(0, "no such CURSOR, no WORD in hand", store("a"), x -> x.lay(3, 1));
        refused(0, "no STORE, no such SIZE", Edges::withoutStore, x -> x.lay(0, 10));
        refused(1, "no such SIZE, no WORD in hand", store("a"), x -> x.lay(0, 0));
    }

    static void promise22_noneAndAllOfTheHits() {
        KwicStore x = made(Edges::full);
        CHECK.due("all", x.lay(0, 9), 200);
        Check.word(x, "b");
        CHECK.due("none", x.lay(1, 9), 0);
        CHECK.due("it is laid", x.most(5), 3);
    }

    static void promise22_laidAnewItHasNoMarkAndNoPage() {
        KwicStore x = made(Edges::rich);
        CHECK.due("lay(0, 9)", x.lay(0, 9), 4);
        CHECK.due("no MARK", x.cursor(0, 5), 0);
        CHECK.due("HITS on its latest PAGE", x.cursor(0, 2), 0);
        CHECK.due("all on its PAGES", x.cursor(0, 3), 0);
        CHECK.due("told", x.told(0, 0, 0), NONE);
        CHECK.due("LEFT", x.cursor(0, 4), 4);
    }

    static void promise22_theTapeAndTheWordStay() {
        KwicStore x = made(Edges::rich);
        x.lay(1, 1);
        CHECK.due("bytes", x.count(2), 3);
        CHECK.due("the WORD", x.rule(3), 2);
    }

    // Promise 23: page

    static void promise23_noSuchCursor() {
        for (int cursor : NO_CURSOR) {
            refused(0, "page(" + cursor + ")", Edges::rich, x -> x.page(cursor));
        }
        refused(0, "no STORE", Edges::withoutStore, x -> x.page(0));
    }

    static void promise23_itIsNone() {
        refused(0, "page(1)", Edges::rich, x -> x.page(1));
        refused(0, "page(2)", Edges::rich, x -> x.page(2));
    }

    static void promise23_asManyAsItsSize() {
        KwicStore x = made(withHits(9));
        x.lay(0, 9);
        CHECK.due("nine of nine", x.page(0), 9);
        CHECK.due("told", Check.told(x, 0), 1, 0, 2, 0, 3, 0, 4, 0, 5, 0, 6, 0, 7, 0, 8, 0, 9, 0);
        x.lay(0, 8);
        CHECK.due("eight of nine", x.page(0), 8);
        CHECK.due("the eighth", x.told(0, 7, 0), 8);
        x.lay(0, 1);
        CHECK.due("one of nine", x.page(0), 1);
        CHECK.due("told", Check.told(x, 0), 1, 0);
    }

    static void promise23_fewerIfThereAreNoMore() {
        KwicStore x = made(withHits(5));
        x.lay(0, 3);
        CHECK.due("three", x.page(0), 3);
        CHECK.due("two", x.page(0), 2);
        CHECK.due("told", Check.told(x, 0), 4, 0, 5, 0);
        CHECK.due("no third", x.told(0, 2, 0), NONE);
        x.lay(0, 9);
        CHECK.due("five of nine", x.page(0), 5);
    }

    static void promise23_justAsMany() {
        KwicStore x = made(withHits(4));
        x.lay(0, 2);
        CHECK.due("two", x.page(0), 2);
        CHECK.due("LEFT", x.cursor(0, 4), 2);
        CHECK.due("two", x.page(0), 2);
        CHECK.due("LEFT", x.cursor(0, 4), 0);
        CHECK.due("none", x.page(0), 0);
    }

    static void promise23_withoutAnyTheMarkStays() {
        KwicStore x = made(withHits(2));
        x.lay(0, 2);
        x.page(0);
        CHECK.due("none", x.page(0), 0);
        CHECK.due("HITS on its latest PAGE", x.cursor(0, 2), 0);
        CHECK.due("all on its PAGES", x.cursor(0, 3), 2);
        CHECK.due("its MARK", x.cursor(0, 5), 1);
        Check.put(x, 0, "xa");
        CHECK.due("like the one ahead of the MARK", x.cursor(0, 4), 0);
        Check.put(x, 0, "xz");
        CHECK.due("behind the MARK", x.page(0), 1);
        CHECK.due("told", Check.told(x, 0), 4, 0);
    }

    static void promise23_noMarkWithoutHits() {
        KwicStore x = made(storeWithWord("a", "b"));
        x.lay(0, 1);
        CHECK.due("none", x.page(0), 0);
        CHECK.due("no MARK", x.cursor(0, 5), 0);
        Check.set(x, 0, "b");
        CHECK.due("then one", x.page(0), 1);
        CHECK.due("a MARK", x.cursor(0, 5), 1);
    }

    static void promise23_anEmptyPageIsAnAct() {
        KwicStore x = made(storeWithWord("a", "b"));
        x.lay(0, 1);
        x.page(0);
        CHECK.due("LOG", Check.log(x, 0), 5, 0, 1);
        CHECK.due("ACTS that can be UNDONE", x.count(4), 2);
    }

    static void promise23_allOfTwoHundred() {
        KwicStore x = made(Edges::full);
        x.lay(2, 9);
        for (int i = 0; i < 22; i++) {
            CHECK.due("nine", x.page(2), 9);
        }
        CHECK.due("the last two", x.page(2), 2);
        CHECK.due("told", Check.told(x, 2), 8, 0, 9, 0);
        CHECK.due("none", x.page(2), 0);
        CHECK.due("all on its PAGES", x.cursor(2, 3), 200);
    }

    // Promise 24: rewind

    static void promise24_noSuchCursor() {
        for (int cursor : NO_CURSOR) {
            refused(0, "rewind(" + cursor + ")", Edges::rich, x -> x.rewind(cursor));
        }
        refused(0, "no STORE", Edges::withoutStore, x -> x.rewind(0));
    }

    static void promise24_itIsNone() {
        refused(0, "rewind(1)", Edges::rich, x -> x.rewind(1));
        refused(0, "rewind(2)", Edges::rich, x -> x.rewind(2));
    }

    static void promise24_itHasNoMark() {
        refused(2, "laid", withHits(2).andThen(x -> x.lay(0, 1)), x -> x.rewind(0));
        refused(2, "an empty PAGE", storeWithWord("a", "b").andThen(x -> {
            x.lay(0, 1);
            x.page(0);
        }), x -> x.rewind(0));
        refused(2, "REWOUND", x -> {
            rich(x);
            x.rewind(0);
        }, x -> x.rewind(0));
    }

    static void promise24_noMarkNoPage() {
        KwicStore x = made(Edges::rich);
        CHECK.due("LEFT", x.rewind(0), 4);
        int[] want = {2, 2, 0, 0, 4, 0};
        for (int what = 0; what <= 5; what++) {
            CHECK.due("cursor(0, " + what + ")", x.cursor(0, what), want[what]);
        }
        CHECK.due("told", x.told(0, 0, 0), NONE);
    }

    static void promise24_noneLeft() {
        KwicStore x = made(storeWithWord("ab", "b"));
        x.lay(0, 1);
        x.page(0);
        Check.set(x, 0, "a");
        CHECK.due("LEFT", x.rewind(0), 0);
        CHECK.due("no MARK", x.cursor(0, 5), 0);
    }

    static void promise24_eachOfTheThree() {
        KwicStore x = new KwicStore();
        Check.tape(x, "ab;bcc;c");
        x.text(0);
        for (int cursor = 0; cursor <= 2; cursor++) {
            Check.word(x, String.valueOf("abc".charAt(cursor)));
            CHECK.due("lay", x.lay(cursor, 1), cursor + 1);
            x.page(cursor);
        }
        for (int cursor = 0; cursor <= 2; cursor++) {
            CHECK.due("LEFT", x.rewind(cursor), cursor + 1);
            CHECK.due("no MARK", x.cursor(cursor, 5), 0);
            CHECK.due("that one alone", x.count(3), 7 + cursor);
        }
    }

    static void promise24_fromTheFirstOnAgain() {
        KwicStore x = made(withHits(3));
        x.lay(0, 2);
        x.page(0);
        x.page(0);
        x.page(0);
        CHECK.due("LEFT", x.rewind(0), 3);
        CHECK.due("two", x.page(0), 2);
        CHECK.due("told", Check.told(x, 0), 1, 0, 2, 0);
    }

    // Promise 25: cursor

    static void promise25_noSuchCursor() {
        for (int cursor : NO_CURSOR) {
            asks("cursor(" + cursor + ", 0)", Edges::rich, x -> x.cursor(cursor, 0), NONE);
        }
        asks("no STORE", Edges::withoutStore, x -> x.cursor(0, 0), NONE);
    }

    static void promise25_noSuchWhat() {
        for (int what : new int[] {-1, 6, MIN, MAX}) {
            asks("cursor(0, " + what + ")", Edges::rich, x -> x.cursor(0, what), NONE);
        }
    }

    static void promise25_itIsNone() {
        for (int what = 0; what <= 5; what++) {
            int w = what;
            asks("cursor(1, " + w + ")", Edges::rich, x -> x.cursor(1, w), NONE);
            asks("cursor(2, " + w + ")", Edges::rich, x -> x.cursor(2, w), NONE);
        }
    }

    static void promise25_aheadOfAnyPage() {
        KwicStore x = made(storeWithWord(TWENTY, "abcdef"));
        x.lay(0, 9);
        int[] want = {9, 6, 0, 0, 1, 0};
        for (int what = 0; what <= 5; what++) {
            CHECK.due("cursor(0, " + what + ")", x.cursor(0, what), want[what]);
        }
    }

    static void promise25_allOnItsPagesSinceItWasLaidOrRewound() {
        KwicStore x = made(withHits(3));
        x.lay(0, 2);
        x.page(0);
        CHECK.due("two", x.cursor(0, 3), 2);
        x.page(0);
        CHECK.due("three", x.cursor(0, 3), 3);
        CHECK.due("one on the latest", x.cursor(0, 2), 1);
        x.rewind(0);
        CHECK.due("REWOUND", x.cursor(0, 3), 0);
        x.page(0);
        CHECK.due("two", x.cursor(0, 3), 2);
        x.lay(0, 1);
        CHECK.due("laid", x.cursor(0, 3), 0);
    }

    // Promise 26: told

    static void promise26_noSuchCursor() {
        for (int cursor : NO_CURSOR) {
            asks("told(" + cursor + ", 0, 0)", Edges::rich, x -> x.told(cursor, 0, 0), NONE);
        }
        asks("it is none", Edges::rich, x -> x.told(1, 0, 0), NONE);
        asks("no STORE", Edges::withoutStore, x -> x.told(0, 0, 0), NONE);
    }

    static void promise26_noSuchHit() {
        for (int i : new int[] {-1, 2, 9, MIN, MAX}) {
            asks("told(0, " + i + ", 0)", Edges::rich, x -> x.told(0, i, 0), NONE);
        }
        KwicStore x = made(Edges::rich);
        CHECK.due("the first", x.told(0, 0, 0), 2);
        CHECK.due("the last", x.told(0, 1, 0), 0);
    }

    static void promise26_noSuchWhat() {
        for (int what : new int[] {-1, 2, MIN, MAX}) {
            asks("told(0, 0, " + what + ")", Edges::rich, x -> x.told(0, 0, what), NONE);
        }
    }

    static void promise26_withoutAPage() {
        KwicStore x = made(withHits(1));
        x.lay(0, 1);
        CHECK.due("laid", x.told(0, 0, 0), NONE);
        x.page(0);
        CHECK.due("a PAGE", x.told(0, 0, 0), 1);
        x.page(0);
        CHECK.due("an empty PAGE", x.told(0, 0, 0), NONE);
        x.rewind(0);
        CHECK.due("REWOUND", x.told(0, 0, 0), NONE);
    }

    static void promise26_theNinthHit() {
        KwicStore x = made(withHits(9));
        x.lay(0, 9);
        x.page(0);
        CHECK.due("the ninth", x.told(0, 8, 0), 9);
        CHECK.due("its place", x.told(0, 8, 1), 0);
        CHECK.due("no tenth", x.told(0, 9, 0), NONE);
    }

    static void promise26_asItWas() {
        KwicStore x = made(storeWithWord("abx;q", "x"));
        x.lay(0, 1);
        x.page(0);
        Check.set(x, 0, "x");
        CHECK.due("told", Check.told(x, 0), 0, 2);
        x.take(0);
        CHECK.due("told", Check.told(x, 0), 0, 2);
    }
}
