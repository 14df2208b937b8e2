/** Edges of HITS and places (==== 2 and 3 of the terms) and of promises 6 to 17, 33, 34 and 38. */
final class PlaceEdges extends Edges {
    // ==== 2: HITS and their ORDER

    private static void order(String text, int... want) {
        KwicStore x = Check.store(text);
        Check.word(x, "x");
        int[] lines = new int[x.rule(2)];
        for (int i = 0; i < lines.length; i++) {
            lines[i] = x.hit(i, 0);
        }
        CHECK.due("LINES of the HITS of x in " + text, lines, want);
    }

    static void terms2_byWhatFollowsWhatEndsIsLess() {
        order("xab;xa;x", 2, 1, 0);
        order("xb;xaa", 1, 0);
        order("xaab;xaaa;xaa_", 2, 1, 0);
    }

    static void terms2_thenByWhatIsAheadReadBackwards() {
        order("bax;abx", 0, 1);
        order("zax;abx;a_x", 2, 0, 1);
    }

    static void terms2_aheadWhatEndsIsLess() {
        order("bax;ax;x", 2, 1, 0);
    }

    static void terms2_whatFollowsComesFirst() {
        order("axb;bxa", 1, 0);
    }

    static void terms2_aheadComesBeforeTheNumber() {
        order("bx;ax", 1, 0);
    }

    static void terms2_likeOnesByNumber() {
        order("x;x;x", 0, 1, 2);
        KwicStore x = made(storeWithWord("x;x;x", "x"));
        x.swap(0, 2);
        CHECK.due("HITS", hits(x), 2, 0, 1, 0, 0, 0);
        Check.put(x, 0, "x");
        CHECK.due("HITS", hits(x), 3, 0, 2, 0, 1, 0, 0, 0);
    }

    static void terms2_twentySignsAreLookedAt() {
        String nineteen = "a".repeat(19);
        order("x" + "a".repeat(18) + "b;x" + nineteen, 1, 0);
        order("b" + "a".repeat(18) + "x;" + nineteen + "x", 1, 0);
    }

    static void terms2_hitsAtTheFirstAndTheLastPlace() {
        KwicStore x = Check.store(TWENTY);
        CHECK.due("at the first", Check.word(x, "abcdef"), 1);
        CHECK.due("its place", x.hit(0, 1), 0);
        CHECK.due("at the last", Check.word(x, "opqrst"), 1);
        CHECK.due("its place", x.hit(0, 1), 14);
        CHECK.due("beyond the end", Check.word(x, "pqrstu"), 0);
        CHECK.due("one SIGN", Check.word(x, "t"), 1);
        CHECK.due("its place", x.hit(0, 1), 19);
    }

    static void terms2_noHitsOverTwoLines() {
        CHECK.due("HITS", Check.word(Check.store("ab;cd"), "bc"), 0);
    }

    static void terms2_aWordAsLongAsTheLineAndLonger() {
        KwicStore x = Check.store("aaa;b");
        CHECK.due("as long", Check.word(x, "aaa"), 1);
        CHECK.due("longer", Check.word(x, "aaaa"), 0);
    }

    // Promise 6: word

    static void promise6_oneToSixSigns() {
        KwicStore x = Check.store("abcdefg;a");
        CHECK.due("one", Check.word(x, "a"), 2);
        CHECK.due("SIGNS", x.rule(3), 1);
        CHECK.due("the TAPE is empty", x.count(2), 0);
        CHECK.due("six", Check.word(x, "bcdefg"), 1);
        CHECK.due("SIGNS", x.rule(3), 6);
        CHECK.due("the TAPE is empty", x.count(2), 0);
    }

    static void promise6_aFaultIsRefused() {
        for (String text : new String[] {"", " ", "abcdefg", "a;b", "A", "ab?"}) {
            asks("word() of '" + text + "'", x -> {
                rich(x);
                Check.tape(x, text);
            }, x -> x.word(), NONE);
        }
    }

    static void promise6_noStoreIsRefused() {
        asks("word()", Edges::withoutStore, x -> x.word(), NONE);
        KwicStore x = made(Edges::withoutStore);
        x.word();
        Check.tape(x, "a");
        x.text(0);
        CHECK.due("no WORD in hand", x.rule(3), 0);
    }

    static void promise6_noneAndAllOfTheHits() {
        KwicStore x = made(Edges::full);
        CHECK.due("none", Check.word(x, "b"), 0);
        CHECK.due("two hundred", Check.word(x, "a"), 200);
        CHECK.due("they may overlap", Check.word(x, "aaaaaa"), 150);
    }

    static void promise6_noAct() {
        KwicStore x = made(Edges::rich);
        int log = x.count(3);
        int undoable = x.count(4);
        Check.word(x, "b");
        CHECK.due("the LOG", x.count(3), log);
        CHECK.due("ACTS that can be UNDONE", x.count(4), undoable);
        CHECK.due("STATUS", Check.statuses(x), 1, 0, 0, 0);
        CHECK.due("the CURSOR's WORD", x.cursor(0, 1), 2);
    }

    static void promise6_itStaysWhateverIsUndone() {
        KwicStore x = made(Edges::rich);
        Check.word(x, "a_");
        while (x.undo() != NONE) {
            CHECK.due("SIGNS", x.rule(3), 2);
            CHECK.due("HITS", x.rule(2), 1);
        }
        CHECK.due("SIGNS", x.rule(3), 2);
        x = made(Edges::rich);
        Check.word(x, "a_b");
        x.back();
        CHECK.due("BACK: SIGNS", x.rule(3), 3);
    }

    // Promise 7: rule

    static void promise7_noStore() {
        for (int what = -1; what <= 4; what++) {
            int w = what;
            asks("rule(" + w + ")", Edges::withoutStore, x -> x.rule(w), NONE);
        }
    }

    static void promise7_noSuchWhat() {
        for (int what : new int[] {-1, 4, MIN, MAX}) {
            asks("rule(" + what + ")", Edges::rich, x -> x.rule(what), NONE);
        }
    }

    static void promise7_withoutAWord() {
        KwicStore x = Check.store("ab;c");
        CHECK.due("LINES", x.rule(0), 2);
        CHECK.due("all SIGNS", x.rule(1), 3);
        CHECK.due("HITS", x.rule(2), 0);
        CHECK.due("its SIGNS", x.rule(3), 0);
    }

    static void promise7_aWordWithoutHits() {
        KwicStore x = made(storeWithWord("ab;c", "zz"));
        CHECK.due("HITS", x.rule(2), 0);
        CHECK.due("its SIGNS", x.rule(3), 2);
    }

    static void promise7_theLeastAndTheMost() {
        KwicStore least = Check.store("a");
        CHECK.due("LINES", least.rule(0), 1);
        CHECK.due("all SIGNS", least.rule(1), 1);
        KwicStore most = made(Edges::full);
        CHECK.due("LINES", most.rule(0), 10);
        CHECK.due("all SIGNS", most.rule(1), 200);
        CHECK.due("HITS", most.rule(2), 200);
    }

    // Promise 8: line

    private static void noSuchLine(String name, java.util.function.Consumer<KwicStore> recipe, int k, int what) {
        asks(name + ": line(" + k + ", " + what + ") throws", recipe, x -> {
            try {
                return x.line(k, what);
            } catch (java.util.NoSuchElementException e) {
                return -7;
            }
        }, -7);
    }

    static void promise8_noSuchLine() {
        for (int k : new int[] {-1, 4, 10, MIN, MAX}) {
            noSuchLine("four LINES", Edges::rich, k, 0);
            noSuchLine("four LINES", Edges::rich, k, 1);
        }
        CHECK.due("the last", made(Edges::rich).line(3, 0), 0);
    }

    static void promise8_noSuchWhat() {
        for (int what : new int[] {-1, 2, MIN, MAX}) {
            noSuchLine("four LINES", Edges::rich, 0, what);
            noSuchLine("four LINES", Edges::rich, 4, what);
        }
    }

    static void promise8_noStore() {
        noSuchLine("no STORE", Edges::withoutStore, 0, 0);
        noSuchLine("no STORE", Edges::withoutStore, -1, 0);
    }

    static void promise8_theTenthLine() {
        KwicStore x = made(Edges::tenLines);
        CHECK.due("its NUMBER", x.line(9, 0), 9);
        CHECK.due("its SIGNS", x.line(9, 1), 2);
        CHECK.due("twenty SIGNS", x.line(8, 1), 20);
        CHECK.due("one SIGN", x.line(0, 1), 1);
        noSuchLine("ten LINES", Edges::tenLines, 10, 0);
    }

    static void promise8_aLineThatIsGone() {
        KwicStore x = Check.store("a;b");
        x.take(1);
        CHECK.throwsNoSuchElement(x, 1, 0);
        CHECK.due("the other", x.line(0, 0), 0);
    }

    // Promise 9: sign

    static void promise9_noSuchLine() {
        for (int k : new int[] {-1, 4, MIN, MAX}) {
            asks("sign(" + k + ", 0)", Edges::rich, x -> x.sign(k, 0), NONE);
        }
        asks("no STORE", Edges::withoutStore, x -> x.sign(0, 0), NONE);
    }

    static void promise9_noSuchPlace() {
        for (int place : new int[] {-1, 2, 20, MIN, MAX}) {
            asks("sign(0, " + place + ")", Edges::rich, x -> x.sign(0, place), NONE);
        }
    }

    static void promise9_theFirstAndTheLastPlace() {
        KwicStore x = made(Edges::tenLines);
        CHECK.due("the first of twenty", x.sign(8, 0), 'a');
        CHECK.due("the last of twenty", x.sign(8, 19), 't');
        CHECK.due("none behind it", x.sign(8, 20), NONE);
        CHECK.due("the only one", x.sign(0, 0), 'a');
        CHECK.due("none behind it", x.sign(0, 1), NONE);
        CHECK.due("of the last LINE", x.sign(9, 1), 'j');
    }

    static void promise9_noneOfWhatWasThere() {
        KwicStore x = Check.store("abc");
        Check.set(x, 0, "z");
        CHECK.due("the only one", x.sign(0, 0), 'z');
        CHECK.due("none of the SIGNS that were", x.sign(0, 1), NONE);
    }

    // Promise 10: hit

    static void promise10_noSuchHit() {
        for (int i : new int[] {-1, 4, MIN, MAX}) {
            asks("hit(" + i + ", 0)", Edges::rich, x -> x.hit(i, 0), NONE);
        }
        CHECK.due("the last", made(Edges::rich).hit(3, 1), 0);
    }

    static void promise10_noSuchWhat() {
        for (int what : new int[] {-1, 4, MIN, MAX}) {
            asks("hit(0, " + what + ")", Edges::rich, x -> x.hit(0, what), NONE);
        }
    }

    static void promise10_noHits() {
        CHECK.due("no STORE", new KwicStore().hit(0, 0), NONE);
        CHECK.due("no WORD in hand", Check.store("a").hit(0, 0), NONE);
        CHECK.due("a WORD without HITS", made(storeWithWord("a", "b")).hit(0, 0), NONE);
    }

    static void promise10_noneAndNineteenFollowAndAreAhead() {
        KwicStore x = made(storeWithWord("x" + "a".repeat(19) + ";" + "a".repeat(19) + "x", "x"));
        CHECK.due("FOLLOW the first", x.hit(0, 2), 0);
        CHECK.due("AHEAD of the first", x.hit(0, 3), 19);
        CHECK.due("FOLLOW the last", x.hit(1, 2), 19);
        CHECK.due("AHEAD of the last", x.hit(1, 3), 0);
        Check.word(x, "xaaaaa");
        CHECK.due("FOLLOW six SIGNS", x.hit(0, 2), 14);
    }

    static void promise10_theLastOfTwoHundred() {
        KwicStore x = made(Edges::full);
        CHECK.due("the first: LINE", x.hit(0, 0), 0);
        CHECK.due("the first: place", x.hit(0, 1), 19);
        CHECK.due("the last: LINE", x.hit(199, 0), 9);
        CHECK.due("the last: place", x.hit(199, 1), 0);
        CHECK.due("no more", x.hit(200, 0), NONE);
    }

    // Promise 11: rank

    static void promise11_noneWithoutHits() {
        CHECK.due("no STORE", new KwicStore().rank(0, 0), NONE);
        CHECK.due("no WORD in hand", Check.store("a").rank(0, 0), NONE);
        CHECK.due("a WORD without HITS", made(storeWithWord("a", "b")).rank(0, 0), NONE);
    }

    static void promise11_noHitAtThatPlace() {
        KwicStore x = made(storeWithWord("abab;b;ab", "ab"));
        CHECK.due("the WORD is not there", x.rank(0, 1), NONE);
        CHECK.due("the last place", x.rank(0, 3), NONE);
        CHECK.due("the WORD's last", x.rank(0, 2), 1);
        CHECK.due("the WORD's first", x.rank(2, 0), 0);
        CHECK.due("the greatest", x.rank(0, 0), 2);
    }

    static void promise11_noSuchLineOrPlace() {
        for (int odd : new int[] {-1, 4, 20, -20, MIN, MAX}) {
            asks("rank(" + odd + ", 0)", Edges::rich, x -> x.rank(odd, 0), NONE);
            asks("rank(0, " + odd + ")", Edges::rich, x -> x.rank(0, odd), NONE);
        }
        KwicStore x = made(storeWithWord("ab;ab", "ab"));
        CHECK.due("no place of the LINE behind", x.rank(0, 20), NONE);
        CHECK.due("no place of the LINE ahead", x.rank(1, -20), NONE);
    }

    static void promise11_theFirstAndTheLastOfTwoHundred() {
        KwicStore x = made(Edges::full);
        CHECK.due("the first", x.rank(0, 19), 0);
        CHECK.due("the last", x.rank(9, 0), 199);
    }

    // Promise 12: all

    static void promise12_noSuchOne() {
        for (int i : new int[] {-1, 13, MIN, MAX}) {
            asks("all(" + i + ", 0)", Edges::rich, x -> x.all(i, 0), NONE);
        }
        asks("no STORE", Edges::withoutStore, x -> x.all(0, 0), NONE);
    }

    static void promise12_noSuchWhat() {
        for (int what : new int[] {-1, 3, MIN, MAX}) {
            asks("all(0, " + what + ")", Edges::rich, x -> x.all(0, what), NONE);
        }
    }

    static void promise12_theOnlyPlace() {
        KwicStore x = Check.store("a");
        CHECK.due("LINE", x.all(0, 0), 0);
        CHECK.due("place", x.all(0, 1), 0);
        CHECK.due("SHARED", x.all(0, 2), NONE);
        CHECK.due("no second", x.all(1, 0), NONE);
    }

    static void promise12_sharedOfTheLastIsNone() {
        KwicStore x = Check.store("ab;ab");
        CHECK.due("the first", x.all(0, 2), 2);
        CHECK.due("nothing is SHARED", x.all(1, 2), 0);
        CHECK.due("the last but one", x.all(2, 2), 1);
        CHECK.due("the last", x.all(3, 2), NONE);
    }

    static void promise12_theFirstAndTheLastOfTwoHundred() {
        KwicStore x = made(Edges::full);
        CHECK.due("the first: LINE", x.all(0, 0), 0);
        CHECK.due("the first: place", x.all(0, 1), 19);
        CHECK.due("the first: SHARED", x.all(0, 2), 1);
        CHECK.due("the last but one: SHARED", x.all(198, 2), 20);
        CHECK.due("the last: LINE", x.all(199, 0), 9);
        CHECK.due("the last: place", x.all(199, 1), 0);
        CHECK.due("the last: SHARED", x.all(199, 2), NONE);
        CHECK.due("no more", x.all(200, 0), NONE);
    }

    static void promise12_withoutAWordInHandToo() {
        KwicStore x = Check.store("ba");
        CHECK.due("the first", x.all(0, 1), 1);
        Check.word(x, "zz");
        CHECK.due("the first", x.all(0, 1), 1);
    }

    // Promise 13: twice

    private static void twice(String text, int i, int signs) {
        KwicStore x = Check.store(text);
        CHECK.due("twice(0) of " + text, x.twice(0), i);
        CHECK.due("twice(1) of " + text, x.twice(1), signs);
    }

    static void promise13_nothingFollowsTwice() {
        twice("a", NONE, NONE);
        twice("ab;cd", NONE, NONE);
        twice("abcdefghijklmnopqrst;uvwxyz_", NONE, NONE);
    }

    static void promise13_oneSignTwice() {
        twice("aa", 0, 1);
        twice("ab;a", 0, 1);
        twice("az;z", 1, 1);
    }

    static void promise13_ofSeveralTheFirstCouple() {
        twice("ab;cd;ab;cd", 0, 2);
        twice("aa;bc;bc", 2, 2);
        twice("bc;aa;bc;bc", 2, 2);
    }

    static void promise13_twentySignsTwice() {
        twice(TWENTY + ";" + TWENTY, 0, 20);
        KwicStore x = made(Edges::full);
        CHECK.due("the i", x.twice(0), 190);
        CHECK.due("SIGNS", x.twice(1), 20);
    }

    static void promise13_noStore() {
        asks("twice(0)", Edges::withoutStore, x -> x.twice(0), NONE);
        asks("twice(1)", Edges::withoutStore, x -> x.twice(1), NONE);
    }

    static void promise13_noSuchWhat() {
        for (int what : new int[] {-1, 2, MIN, MAX}) {
            asks("twice(" + what + ")", Edges::rich, x -> x.twice(what), NONE);
        }
    }

    // Promise 14: unlike

    static void promise14_nFrom1To6() {
        KwicStore x = Check.store("abcdef;abcdef");
        CHECK.due("of 1", x.unlike(1), 6);
        CHECK.due("of 6", x.unlike(6), 1);
        x = Check.store("abcdefg");
        CHECK.due("of 6", x.unlike(6), 2);
    }

    static void promise14_nOutOfBounds() {
        for (int n : new int[] {0, 7, -1, MIN, MAX}) {
            asks("unlike(" + n + ")", Edges::rich, x -> x.unlike(n), NONE);
        }
    }

    static void promise14_noStore() {
        asks("unlike(1)", Edges::withoutStore, x -> x.unlike(1), NONE);
        asks("unlike(6)", Edges::withoutStore, x -> x.unlike(6), NONE);
    }

    static void promise14_noneOfNSigns() {
        KwicStore x = Check.store("abcde;a");
        CHECK.due("of 6", x.unlike(6), 0);
        CHECK.due("of 5", x.unlike(5), 1);
        CHECK.due("none over two LINES", Check.store("a;b").unlike(2), 0);
    }

    static void promise14_theFewestAndTheMost() {
        CHECK.due("all alike", made(Edges::full).unlike(6), 1);
        CHECK.due("27 SIGNS", Check.store("abcdefghijklm;nopqrstuvwxyz;_").unlike(1), 27);
    }

    // Promise 15: frequent

    private static void frequent(KwicStore x, int n, int... want) {
        for (int what = 0; what <= 2; what++) {
            CHECK.due("frequent(" + n + ", " + what + ")", x.frequent(n, what), want[what]);
        }
    }

    static void promise15_noneOfNSigns() {
        KwicStore x = Check.store("abcde;a");
        frequent(x, 6, NONE, NONE, NONE);
        frequent(x, 5, 1, 0, 0);
        frequent(Check.store("a;b"), 2, NONE, NONE, NONE);
    }

    static void promise15_nOutOfBounds() {
        for (int n : new int[] {0, 7, -1, MIN, MAX}) {
            for (int what = 0; what <= 2; what++) {
                int w = what;
                asks("frequent(" + n + ", " + w + ")", Edges::rich, x -> x.frequent(n, w), NONE);
            }
        }
        KwicStore x = Check.store("abcdefg;abcdefg");
        frequent(x, 6, 2, 0, 0);
        frequent(x, 7, NONE, NONE, NONE);
        frequent(x, 0, NONE, NONE, NONE);
    }

    static void promise15_noStore() {
        for (int what = 0; what <= 2; what++) {
            int w = what;
            asks("frequent(1, " + w + ")", Edges::withoutStore, x -> x.frequent(1, w), NONE);
        }
    }

    static void promise15_noSuchWhat() {
        for (int what : new int[] {-1, 3, MIN, MAX}) {
            asks("frequent(1, " + what + ")", Edges::rich, x -> x.frequent(1, what), NONE);
        }
    }

    static void promise15_ofSeveralTheLeastWord() {
        frequent(Check.store("ba"), 1, 1, 0, 1);
        frequent(Check.store("a_"), 1, 1, 0, 1);
        frequent(Check.store("cd;ab;cd;ab"), 2, 2, 1, 0);
        frequent(Check.store("ab;cd;cd"), 2, 2, 1, 0);
    }

    static void promise15_itsFirstHit() {
        // both FOLLOWED by nothing: AHEAD "b" is less than "c"
        frequent(Check.store("ca;ba"), 1, 2, 1, 1);
        KwicStore x = Check.store("a;a");
        x.swap(0, 1);
        frequent(x, 1, 2, 1, 0);
    }

    static void promise15_twoHundredHits() {
        KwicStore x = made(Edges::full);
        frequent(x, 1, 200, 0, 19);
        frequent(x, 6, 150, 0, 14);
    }

    // Promise 16: few

    static void promise16_oneSignIsEnough() {
        CHECK.due("the only place", Check.store("a").few(0, 0), 1);
        CHECK.due("a SIGN of its own", Check.store("aab;a").few(0, 2), 1);
    }

    static void promise16_allUpToTheLinesEnd() {
        KwicStore x = Check.store("a".repeat(19) + "b;" + "a".repeat(19) + "c");
        CHECK.due("twenty", x.few(0, 0), 20);
        CHECK.due("nineteen", x.few(1, 1), 19);
        CHECK.due("the last", x.few(0, 19), 1);
    }

    static void promise16_noneUpToTheLinesEnd() {
        KwicStore x = Check.store("ab;ab;aab");
        CHECK.due("a like LINE", x.few(0, 0), NONE);
        CHECK.due("within another", x.few(1, 1), NONE);
        CHECK.due("its end has more", x.few(2, 1), NONE);
        CHECK.due("not from its beginning on", x.few(2, 0), 2);
        CHECK.due("a LINE within itself", Check.store("aa").few(0, 1), NONE);
        CHECK.due("and all of it", Check.store("aa").few(0, 0), 2);
    }

    static void promise16_noSuchPlace() {
        for (int place : new int[] {-1, 2, 20, MIN, MAX}) {
            asks("few(0, " + place + ")", Edges::rich, x -> x.few(0, place), NONE);
        }
        for (int line : new int[] {-1, 4, MIN, MAX}) {
            asks("few(" + line + ", 0)", Edges::rich, x -> x.few(line, 0), NONE);
        }
        asks("no STORE", Edges::withoutStore, x -> x.few(0, 0), NONE);
        CHECK.due("behind the last", Check.store("abc").few(0, 3), NONE);
        CHECK.due("the last", Check.store("abc").few(0, 2), 1);
    }

    // Promise 17: beside

    private static void besides(KwicStore x) {
        Check.tape(x, "_m_;zmz;m;ama");
        x.text(0);
        Check.word(x, "m");
    }

    static void promise17_signsFrom0To27() {
        KwicStore x = made(PlaceEdges::besides);
        for (int sign = 0; sign <= 27; sign++) {
            int want = sign <= 1 || sign >= 26 ? 1 : 0;
            CHECK.due("AFTER " + sign, x.beside(true, sign), want);
            CHECK.due("BEFORE " + sign, x.beside(false, sign), want);
        }
    }

    static void promise17_afterIsNotBefore() {
        KwicStore x = made(storeWithWord("amb;am", "m"));
        CHECK.due("AFTER a", x.beside(true, 1), 0);
        CHECK.due("AFTER b", x.beside(true, 2), 1);
        CHECK.due("AFTER the end", x.beside(true, 27), 1);
        CHECK.due("BEFORE a", x.beside(false, 1), 2);
        CHECK.due("BEFORE the end", x.beside(false, 27), 0);
    }

    static void promise17_noSuchSign() {
        for (int sign : new int[] {-1, 28, MIN, MAX}) {
            asks("beside(true, " + sign + ")", PlaceEdges::besides, x -> x.beside(true, sign), NONE);
            asks("beside(false, " + sign + ")", PlaceEdges::besides, x -> x.beside(false, sign), NONE);
        }
    }

    static void promise17_noStoreNoWord() {
        asks("no STORE", Edges::withoutStore, x -> x.beside(true, 0), NONE);
        asks("no WORD in hand", store("a"), x -> x.beside(true, 0), NONE);
        asks("no WORD in hand", store("a"), x -> x.beside(false, 27), NONE);
    }

    static void promise17_aWordWithoutHits() {
        KwicStore x = made(storeWithWord("a", "b"));
        CHECK.due("AFTER", x.beside(true, 27), 0);
        CHECK.due("BEFORE", x.beside(false, 27), 0);
    }

    static void promise17_theMost() {
        KwicStore x = made(Edges::full);
        CHECK.due("AFTER a", x.beside(true, 1), 190);
        CHECK.due("AFTER the end", x.beside(true, 27), 10);
        CHECK.due("BEFORE a", x.beside(false, 1), 190);
        CHECK.due("BEFORE the end", x.beside(false, 27), 10);
    }

    // Promise 33: spell

    private static void spells(String text, String word, String want) {
        KwicStore x = made(storeWithWord(text, word));
        String got = spelled(x, 0);
        CHECK.due("bytes of " + got, x.spell(0, NONE), want.length());
        CHECK.due("'" + got + "' is '" + want + "'", got.equals(want), true);
        CHECK.due("none behind " + got, x.spell(0, want.length()), NONE);
    }

    static void promise33_upToFiveAhead() {
        spells("x", "x", "[x]");
        spells("abcdx", "x", "abcd[x]");
        spells("abcdex", "x", "abcde[x]");
        spells("abcdefx", "x", "bcdef[x]");
    }

    static void promise33_upToFiveBehind() {
        spells("xabcd", "x", "[x]abcd");
        spells("xabcde", "x", "[x]abcde");
        spells("xabcdef", "x", "[x]abcde");
    }

    static void promise33_theLongest() {
        spells("zabcdeuvwxyzfghijz", "uvwxyz", "abcde[uvwxyz]fghij");
    }

    private static void threeSpelled(KwicStore x) {
        Check.tape(x, "bxa;axb;x");
        x.text(0);
        Check.word(x, "x");
    }

    static void promise33_noSuchByte() {
        for (int i : new int[] {-2, 5, MIN, MAX}) {
            asks("spell(1, " + i + ")", PlaceEdges::threeSpelled, x -> x.spell(1, i), NONE);
        }
        KwicStore x = made(PlaceEdges::threeSpelled);
        CHECK.due("the first", x.spell(1, 0), 'b');
        CHECK.due("the last", x.spell(1, 4), 'a');
    }

    static void promise33_noSuchHit() {
        for (int k : new int[] {-1, 3, MIN, MAX}) {
            asks("spell(" + k + ", NONE)", PlaceEdges::threeSpelled, x -> x.spell(k, NONE), NONE);
            asks("spell(" + k + ", 0)", PlaceEdges::threeSpelled, x -> x.spell(k, 0), NONE);
        }
        CHECK.due("the last", made(PlaceEdges::threeSpelled).spell(2, NONE), 5);
    }

    static void promise33_noHits() {
        CHECK.due("no STORE", new KwicStore().spell(0, NONE), NONE);
        CHECK.due("no WORD in hand", Check.store("a").spell(0, NONE), NONE);
        CHECK.due("a WORD without HITS", made(storeWithWord("a", "b")).spell(0, NONE), NONE);
    }

    // Promise 34: would

    private static java.util.function.Consumer<KwicStore> wouldBe(String tape) {
        return x -> {
            rich(x);
            Check.word(x, "a");
            Check.tape(x, tape);
        };
    }

    static void promise34_theTapeStaysAndNothingChanges() {
        // ab; aab; ba_b; abab with a in hand: 6 HITS, one of them in LINE 0, two in LINE 3
        asks("would(0)", wouldBe(" a a "), x -> x.would(0), 7);
        asks("would(3)", wouldBe("b"), x -> x.would(3), 4);
        asks("as it is", wouldBe("ab"), x -> x.would(0), 6);
    }

    static void promise34_noSuchLine() {
        for (int k : new int[] {-1, 4, MIN, MAX}) {
            asks("would(" + k + ")", wouldBe("aa"), x -> x.would(k), NONE);
        }
    }

    static void promise34_theTapeIsNoSignsOfALine() {
        for (String tape : new String[] {"", " ", "a;b", "A", TWENTY + "u"}) {
            asks("would(0) of '" + tape + "'", wouldBe(tape), x -> x.would(0), NONE);
        }
        asks("twenty SIGNS", wouldBe(TWENTY), x -> x.would(0), 6);
        asks("one SIGN", wouldBe("_"), x -> x.would(0), 5);
    }

    static void promise34_noWordInHand() {
        asks("would(0)", x -> {
            Check.tape(x, "ab");
            x.text(0);
            Check.tape(x, "a");
        }, x -> x.would(0), NONE);
        asks("no STORE", Edges::withoutStore, x -> x.would(0), NONE);
    }

    static void promise34_noneAndAllOfTheHits() {
        KwicStore x = made(storeWithWord("aa", "a"));
        Check.tape(x, "b");
        CHECK.due("none", x.would(0), 0);
        x = made(Edges::full);
        Check.tape(x, "a".repeat(20));
        CHECK.due("all", x.would(9), 200);
        Check.tape(x, "b");
        CHECK.due("twenty fewer", x.would(9), 180);
    }

    // Promise 38: most

    private static void most(int what, String text, int want) {
        CHECK.due("most(" + what + ") of " + text, Check.store(text).most(what), want);
    }

    static void promise38_theLongestOfSeveralTheFirst() {
        most(0, "a", 0);
        most(0, "a;b;c", 0);
        most(0, "a;bb;cc;d", 1);
        most(0, "a;b;" + TWENTY, 2);
    }

    static void promise38_theShortestOfSeveralTheFirst() {
        most(1, "a", 0);
        most(1, "a;b;c", 0);
        most(1, "aa;b;c;dd", 1);
        most(1, "aa;bbb;c", 2);
    }

    static void promise38_unlikeSigns() {
        most(2, "aaa", 1);
        most(2, "a_;_a", 2);
        most(2, "abcdefghijklm;nopqrstuvwxyz;_", 27);
    }

    static void promise38_theGreatestShared() {
        most(3, "a", 0);
        most(3, "ab;cd", 0);
        most(3, "aa", 1);
        most(3, TWENTY + ";" + TWENTY, 20);
    }

    static void promise38_numbersThatRise() {
        most(4, "a", 1);
        most(4, EIGHT_LINES, 8);
        CHECK.due("ten", made(Edges::tenLines).most(4), 10);
        KwicStore x = Check.store("a;b;c;d");
        x.swap(1, 2);
        CHECK.due("0 2 1 3", x.most(4), 2);
        x.swap(0, 1);
        CHECK.due("2 0 1 3", x.most(4), 1);
        x.take(0);
        CHECK.due("0 1 3", x.most(4), 3);
    }

    static void promise38_cursorsThatAreLaid() {
        KwicStore x = made(storeWithWord("a", "a"));
        CHECK.due("none", x.most(5), 0);
        x.lay(2, 1);
        CHECK.due("the third", x.most(5), 4);
        x.lay(1, 9);
        CHECK.due("two", x.most(5), 6);
        x.lay(0, 1);
        CHECK.due("all", x.most(5), 7);
        x.undo();
        CHECK.due("UNDONE", x.most(5), 6);
    }

    static void promise38_linesWithinOthers() {
        most(6, "a", 0);
        most(6, "aa", 0);
        most(6, "ab;ba", 0);
        most(6, "ab;ab", 3);
        most(6, "abc;bc", 2);
        most(6, "bc;abc", 1);
        most(6, "abc;ac", 0);
        CHECK.due("all ten", made(Edges::full).most(6), 1023);
    }

    static void promise38_noStore() {
        for (int what = 0; what <= 6; what++) {
            int w = what;
            asks("most(" + w + ")", Edges::withoutStore, x -> x.most(w), HIDDEN);
        }
    }

    static void promise38_noSuchWhat() {
        for (int what : new int[] {-1, 7, MIN, MAX}) {
            asks("most(" + what + ")", Edges::rich, x -> x.most(what), HIDDEN);
        }
    }
}
