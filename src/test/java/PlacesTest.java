/** Promises 6 to 17, 33, 34 and 38: what a STORE is asked for. */
final class PlacesTest {
    private static final int NONE = KwicStore.NONE;
    private static final int HIDDEN = KwicStore.HIDDEN;
    private static final Check CHECK = new Check("PlacesTest");

    public static void main(String[] args) {
        word();
        rule();
        line();
        sign();
        hit();
        hitsOfLikeLines();
        rank();
        all();
        twice();
        unlike();
        frequent();
        few();
        beside();
        spell();
        would();
        most();
        mostWithin();
        afterEdits();
        fullStore();
        CHECK.finish();
    }

    private static void word() {
        KwicStore x = new KwicStore();
        CHECK.due("word() without a STORE", Check.word(x, "ab"), NONE);
        CHECK.due("the TAPE stays", x.count(2), 2);
        x = Check.store("aaaa;baa;b");
        CHECK.due("HITS that overlap", Check.word(x, "a a"), 4);
        CHECK.due("the TAPE is empty", x.count(2), 0);
        CHECK.due("SIGNS of the WORD", x.rule(3), 2);
        CHECK.due("a WORD of 7", Check.word(x, "aaaaaaa"), NONE);
        CHECK.due("the TAPE stays", x.count(2), 7);
        CHECK.due("no WORD", Check.word(x, ""), NONE);
        CHECK.due("the WORD ahead stays", x.rule(2), 4);
        CHECK.due("a WORD that is nowhere", Check.word(x, "abcdef"), 0);
        CHECK.due("SIGNS of the WORD", x.rule(3), 6);
        CHECK.due("HITS", x.rule(2), 0);
        CHECK.due("a WORD at the end", Check.word(x, "baa"), 1);
        x.take(2);
        Check.word(x, "aa");
        x.undo();
        CHECK.due("the WORD stays whatever is UNDONE", x.rule(3), 2);
        CHECK.due("no ACT", x.count(3), 0);
        CHECK.due("no STATUS", Check.statuses(x), 0, 0, 0, 0);
    }

    private static void rule() {
        KwicStore x = Check.store("abc;ab;b");
        CHECK.due("LINES", x.rule(0), 3);
        CHECK.due("all SIGNS", x.rule(1), 6);
        CHECK.due("HITS without a WORD", x.rule(2), 0);
        CHECK.due("SIGNS without a WORD", x.rule(3), 0);
        Check.word(x, "b");
        CHECK.due("HITS", x.rule(2), 3);
        CHECK.due("SIGNS", x.rule(3), 1);
        CHECK.due("no such what", x.rule(4), NONE);
        CHECK.due("no such what", x.rule(-1), NONE);
        x.take(0);
        CHECK.due("HITS as they are now", x.rule(2), 2);
        CHECK.due("all SIGNS as they are now", x.rule(1), 3);
    }

    private static void line() {
        KwicStore x = Check.store("abc;d");
        CHECK.due("line(0, 0)", x.line(0, 0), 0);
        CHECK.due("line(0, 1)", x.line(0, 1), 3);
        CHECK.due("line(1, 0)", x.line(1, 0), 1);
        CHECK.due("line(1, 1)", x.line(1, 1), 1);
        CHECK.throwsNoSuchElement(x, 2, 0);
        CHECK.throwsNoSuchElement(x, -1, 0);
        CHECK.throwsNoSuchElement(x, 0, 2);
        CHECK.throwsNoSuchElement(x, 0, -1);
        CHECK.throwsNoSuchElement(x, Integer.MAX_VALUE, 1);
        x.take(1);
        CHECK.throwsNoSuchElement(x, 1, 0);
    }

    private static void sign() {
        KwicStore x = Check.store("a_z;d");
        CHECK.due("sign(0, 0)", x.sign(0, 0), 'a');
        CHECK.due("sign(0, 1)", x.sign(0, 1), '_');
        CHECK.due("sign(0, 2)", x.sign(0, 2), 'z');
        CHECK.due("sign(1, 0)", x.sign(1, 0), 'd');
        CHECK.due("no such place", x.sign(0, 3), NONE);
        CHECK.due("no such place", x.sign(0, -1), NONE);
        CHECK.due("no such place of another LINE", x.sign(1, 1), NONE);
        CHECK.due("no such LINE", x.sign(2, 0), NONE);
        CHECK.due("no such LINE", x.sign(-1, 0), NONE);
    }

    /** LINE and place of all HITS, in one row. */
    private static int[] hits(KwicStore x) {
        int[] hits = new int[2 * x.rule(2)];
        for (int i = 0; i < hits.length / 2; i++) {
            hits[2 * i] = x.hit(i, 0);
            hits[2 * i + 1] = x.hit(i, 1);
        }
        return hits;
    }

    private static void hit() {
        // FOLLOWS: "", "_a", "a", "a_", "b"; by these alone the ORDER is told
        KwicStore x = Check.store("xb;xa_;x;x_a;xa");
        Check.word(x, "x");
        CHECK.due("by what FOLLOWS", hits(x), 2, 0, 3, 0, 4, 0, 1, 0, 0, 0);
        CHECK.due("FOLLOW", x.hit(3, 2), 2);
        CHECK.due("FOLLOW", x.hit(0, 2), 0);
        CHECK.due("AHEAD", x.hit(3, 3), 0);
        // what is AHEAD is read backwards: ab is "ba", zb is "bz", c is "c"
        x = Check.store("cxd;zbxd;abxd;xd;bxd");
        Check.word(x, "x");
        CHECK.due("by what is AHEAD", hits(x), 3, 0, 4, 1, 2, 2, 1, 2, 0, 1);
        CHECK.due("AHEAD", x.hit(2, 3), 2);
        CHECK.due("FOLLOW", x.hit(2, 2), 1);
        CHECK.due("no such HIT", x.hit(5, 0), NONE);
        CHECK.due("no such HIT", x.hit(-1, 0), NONE);
        CHECK.due("no such what", x.hit(0, 4), NONE);
        CHECK.due("no such what", x.hit(0, -1), NONE);
        KwicStore without = Check.store("a");
        CHECK.due("no WORD in hand", without.hit(0, 0), NONE);
    }

    private static void hitsOfLikeLines() {
        KwicStore x = Check.store("axa;b;axa;axa");
        Check.word(x, "x");
        x.swap(0, 3);
        CHECK.due("by NUMBER, not by where the LINE stands", hits(x), 3, 1, 2, 1, 0, 1);
        Check.put(x, 0, "axa");
        CHECK.due("the newest is last", hits(x), 4, 1, 3, 1, 1, 1, 0, 1);
        x = Check.store("aaa");
        Check.word(x, "a");
        CHECK.due("within one LINE", hits(x), 0, 2, 0, 1, 0, 0);
    }

    private static void rank() {
        KwicStore x = Check.store("abab;b;ab");
        CHECK.due("no WORD in hand", x.rank(0, 0), NONE);
        Check.word(x, "ab");
        CHECK.due("rank(2, 0)", x.rank(2, 0), 0);
        CHECK.due("rank(0, 2)", x.rank(0, 2), 1);
        CHECK.due("rank(0, 0)", x.rank(0, 0), 2);
        CHECK.due("no HIT", x.rank(0, 1), NONE);
        CHECK.due("no such LINE", x.rank(3, 0), NONE);
        CHECK.due("no such LINE", x.rank(-1, 0), NONE);
        CHECK.due("no such place", x.rank(1, 1), NONE);
        CHECK.due("no place of the LINE ahead", x.rank(1, -18), NONE);
        CHECK.due("no place of the next LINE", x.rank(0, 40), NONE);
        x.take(0);
        CHECK.due("as it is now", x.rank(1, 0), 0);
    }

    /** LINE, place, SHARED of ALL, in one row. */
    private static int[] allPlaces(KwicStore x) {
        int[] all = new int[3 * x.rule(1)];
        for (int i = 0; i < all.length; i++) {
            all[i] = x.all(i / 3, i % 3);
        }
        return all;
    }

    private static void all() {
        // FOLLOWS: _b 0,2; a 2,0; a_b 0,1; ab 1,1; b 1,2 (AHEAD ab..); b 0,3 (AHEAD _a..); ba_b 0,0; bab 1,0
        KwicStore x = Check.store("ba_b;bab;a");
        CHECK.due("ALL", allPlaces(x),
            0, 2, 0, 2, 0, 1, 0, 1, 1, 1, 1, 0, 0, 3, 1, 1, 2, 1, 0, 0, 2, 1, 0, NONE);
        CHECK.due("no such one", x.all(8, 0), NONE);
        CHECK.due("no such one", x.all(-1, 0), NONE);
        CHECK.due("no such what", x.all(0, 3), NONE);
        CHECK.due("no such what", x.all(0, -1), NONE);
        KwicStore full = Check.store("aaaaaaaaaaaaaaaaaaaa;aaaaaaaaaaaaaaaaaaaa");
        CHECK.due("the last of forty", full.all(39, 1), 0);
        CHECK.due("its LINE", full.all(39, 0), 1);
        CHECK.due("like LINES share all", full.all(38, 2), 20);
        CHECK.due("no forty-first", full.all(40, 0), NONE);
    }

    private static void twice() {
        KwicStore x = Check.store("abcx;abcy;xbc");
        // _, ALL: abcx abcy | bc bcx bcy | ..: abc is SHARED by the first two
        CHECK.due("the i", x.twice(0), 0);
        CHECK.due("SIGNS", x.twice(1), 3);
        CHECK.due("no such what", x.twice(2), NONE);
        CHECK.due("no such what", x.twice(-1), NONE);
        x = Check.store("ab;cd");
        CHECK.due("nothing twice: the i", x.twice(0), NONE);
        CHECK.due("nothing twice: SIGNS", x.twice(1), NONE);
        x = Check.store("zab;ycd;ab;cd");
        CHECK.due("the first of several couples", x.twice(0), 0);
        CHECK.due("two SIGNS", x.twice(1), 2);
        x = Check.store("za;cd;cd");
        CHECK.due("behind the first", x.twice(0), 1);
        Check.set(x, 2, "d");
        CHECK.due("as it is now", x.twice(1), 1);
        CHECK.due("no STORE", new KwicStore().twice(1), NONE);
    }

    private static void unlike() {
        KwicStore x = Check.store("abab;ab_;b");
        CHECK.due("of 1", x.unlike(1), 3);
        CHECK.due("of 2: ab ba b_", x.unlike(2), 3);
        CHECK.due("of 3: aba bab ab_", x.unlike(3), 3);
        CHECK.due("of 4", x.unlike(4), 1);
        CHECK.due("of 5", x.unlike(5), 0);
        CHECK.due("of 6", x.unlike(6), 0);
        CHECK.due("of 0", x.unlike(0), NONE);
        CHECK.due("of 7", x.unlike(7), NONE);
        CHECK.due("of -1", x.unlike(-1), NONE);
        CHECK.due("no STORE", new KwicStore().unlike(1), NONE);
        CHECK.due("six SIGNS", Check.store("abcdefg;abcdef").unlike(6), 2);
    }

    private static void frequent(KwicStore x, int n, int... want) {
        for (int what = 0; what < 3; what++) {
            CHECK.due("frequent(" + n + ", " + what + ")", x.frequent(n, what), want[what]);
        }
    }

    private static void frequent() {
        KwicStore x = Check.store("bab;cbb;ac");
        // b 4 times; its first HIT: nothing FOLLOWS, AHEAD "ab" is less than "bc"
        frequent(x, 1, 4, 0, 2);
        // ab, ac, ba, bb, cb once each: the least is ab
        frequent(x, 2, 1, 0, 1);
        frequent(x, 3, 1, 0, 0);
        frequent(x, 4, NONE, NONE, NONE);
        frequent(x, 0, NONE, NONE, NONE);
        frequent(x, 7, NONE, NONE, NONE);
        CHECK.due("no such what", x.frequent(1, 3), NONE);
        CHECK.due("no such what", x.frequent(1, -1), NONE);
        x = Check.store("a;cdc;cda;bcd");
        frequent(x, 2, 3, 3, 1);
        CHECK.due("no STORE", new KwicStore().frequent(1, 0), NONE);
        frequent(Check.store("abcdef;zabcdef"), 6, 2, 0, 0);
    }

    private static void few() {
        KwicStore x = Check.store("abab;ab_b;ab");
        CHECK.due("aba", x.few(0, 0), 3);
        CHECK.due("ba", x.few(0, 1), 2);
        CHECK.due("ab at an end has more", x.few(0, 2), NONE);
        CHECK.due("b at an end has more", x.few(0, 3), NONE);
        CHECK.due("ab_", x.few(1, 0), 3);
        CHECK.due("b_", x.few(1, 1), 2);
        CHECK.due("_", x.few(1, 2), 1);
        CHECK.due("ab within others", x.few(2, 0), NONE);
        CHECK.due("no such place", x.few(2, 2), NONE);
        CHECK.due("no such place", x.few(0, -1), NONE);
        CHECK.due("no such LINE", x.few(3, 0), NONE);
        CHECK.due("no such LINE", x.few(-1, 0), NONE);
        CHECK.due("more than six SIGNS", Check.store("abcdefghx;abcdefghy").few(1, 0), 9);
        CHECK.due("a place alone", Check.store("q").few(0, 0), 1);
        CHECK.due("no STORE", new KwicStore().few(0, 0), NONE);
    }

    private static void beside() {
        KwicStore x = Check.store("ab_;zab;abz;aab");
        CHECK.due("no WORD in hand", x.beside(true, 0), NONE);
        Check.word(x, "ab");
        CHECK.due("AFTER _", x.beside(true, 0), 1);
        CHECK.due("AFTER a", x.beside(true, 1), 0);
        CHECK.due("AFTER z", x.beside(true, 26), 1);
        CHECK.due("AFTER the end", x.beside(true, 27), 2);
        CHECK.due("BEFORE _", x.beside(false, 0), 0);
        CHECK.due("BEFORE a", x.beside(false, 1), 1);
        CHECK.due("BEFORE z", x.beside(false, 26), 1);
        CHECK.due("BEFORE the end", x.beside(false, 27), 2);
        CHECK.due("no such SIGN", x.beside(true, 28), NONE);
        CHECK.due("no such SIGN", x.beside(false, -1), NONE);
        Check.word(x, "q");
        CHECK.due("no HITS", x.beside(true, 27), 0);
        CHECK.due("no STORE", new KwicStore().beside(true, 27), NONE);
    }

    private static void spelled(KwicStore x, int k, String want) {
        CHECK.due("spell(" + k + ", NONE)", x.spell(k, NONE), want.length());
        for (int i = 0; i < want.length(); i++) {
            CHECK.due("spell(" + k + ", " + i + ")", x.spell(k, i), want.charAt(i));
        }
        CHECK.due("behind it", x.spell(k, want.length()), NONE);
    }

    private static void spell() {
        KwicStore x = Check.store("abcdefxyghijklm;xy;exy;xyz;bcdefxyghijk");
        CHECK.due("no WORD in hand", x.spell(0, NONE), NONE);
        Check.word(x, "xy");
        spelled(x, 0, "[xy]");
        spelled(x, 1, "e[xy]");
        spelled(x, 2, "bcdef[xy]ghijk");
        spelled(x, 3, "bcdef[xy]ghijk");
        spelled(x, 4, "[xy]z");
        CHECK.due("no such HIT", x.spell(5, NONE), NONE);
        CHECK.due("no such HIT", x.spell(-1, 0), NONE);
        CHECK.due("no such byte", x.spell(0, -2), NONE);
    }

    private static void would() {
        KwicStore x = Check.store("aba;ab");
        Check.tape(x, "aa");
        CHECK.due("no WORD in hand", x.would(0), NONE);
        Check.word(x, "a");
        Check.tape(x, " aa aa ");
        CHECK.due("would(0)", x.would(0), 5);
        CHECK.due("would(1)", x.would(1), 6);
        CHECK.due("no such LINE", x.would(2), NONE);
        CHECK.due("no such LINE", x.would(-1), NONE);
        CHECK.due("the TAPE stays", x.count(2), 7);
        CHECK.due("HITS stay", x.rule(2), 3);
        Check.tape(x, "aba");
        CHECK.due("as it is", x.would(0), 3);
        Check.tape(x, "a;b");
        CHECK.due("no SIGNS of a LINE", x.would(0), NONE);
        Check.tape(x, "aaaaaaaaaaaaaaaaaaaaa");
        CHECK.due("21 SIGNS", x.would(0), NONE);
        CHECK.due("no STATUS", Check.statuses(x), 0, 0, 0, 0);
    }

    private static void most() {
        KwicStore x = Check.store("ab;abz;a;_bc;b");
        int[] want = {1, 2, 5, 2, 5, 0};
        for (int what = 0; what < want.length; what++) {
            CHECK.due("most(" + what + ")", x.most(what), want[what]);
        }
        CHECK.due("no such what", x.most(7), HIDDEN);
        CHECK.due("no such what", x.most(-1), HIDDEN);
        CHECK.due("no STORE", new KwicStore().most(0), HIDDEN);
        x.swap(2, 3);
        CHECK.due("NUMBERS 0 1 3 2 4", x.most(4), 3);
        CHECK.due("the longest is the first still", x.most(0), 1);
        CHECK.due("the shortest is the first of 1 SIGN", x.most(1), 3);
        Check.word(x, "b");
        x.lay(2, 1);
        CHECK.due("CURSOR 2", x.most(5), 4);
        x.lay(0, 1);
        CHECK.due("CURSORS 0, 2", x.most(5), 5);
        CHECK.due("nothing SHARED", Check.store("ab;cd").most(3), 0);
        CHECK.due("one place", Check.store("a").most(3), 0);
    }

    private static void mostWithin() {
        CHECK.due("none within another", Check.store("ab;cd").most(6), 0);
        CHECK.due("like ones", Check.store("ab;x;ab").most(6), 5);
        CHECK.due("within", Check.store("abc;bc;ac;c;ab").most(6), 26);
        CHECK.due("one LINE", Check.store("aa").most(6), 0);
        CHECK.due("the first is the longest", Check.store("abc;b").most(0), 0);
        CHECK.due("the first is the shortest", Check.store("a;bcd;e").most(1), 0);
        CHECK.due("the second is the shortest", Check.store("abc;b;cd").most(1), 1);
        CHECK.due("unlike SIGNS of the first LINE", Check.store("abz;b").most(2), 3);
        CHECK.due("unlike SIGNS without _", Check.store("z;z").most(2), 1);
        CHECK.due("unlike SIGNS, all of them", Check.store("abcdefghijklm;nopqrstuvwxyz;_").most(2), 27);
        KwicStore x = Check.store("a;b");
        x.swap(0, 1);
        CHECK.due("NUMBERS 1 0", x.most(4), 1);
    }

    /** The ORDER is asked for ahead of each change, so that an answer that is kept too long is seen. */
    private static void afterEdits() {
        KwicStore x = Check.store("ab;c");
        Check.word(x, "b");
        x.image();
        CHECK.due("ALL", allPlaces(x), 0, 0, 0, 0, 1, 0, 1, 0, NONE);
        CHECK.due("HITS", hits(x), 0, 1);
        Check.set(x, 0, "ba");
        CHECK.due("ALL, SET", allPlaces(x), 0, 1, 0, 0, 0, 0, 1, 0, NONE);
        CHECK.due("HITS, SET", hits(x), 0, 0);
        x.undo();
        CHECK.due("ALL, UNDONE", allPlaces(x), 0, 0, 0, 0, 1, 0, 1, 0, NONE);
        CHECK.due("HITS, UNDONE", hits(x), 0, 1);
        x.swap(0, 1);
        CHECK.due("ALL, CHANGED", allPlaces(x), 1, 0, 0, 1, 1, 0, 0, 0, NONE);
        CHECK.due("HITS, CHANGED", hits(x), 1, 1);
        x.back();
        CHECK.due("ALL, BACK", allPlaces(x), 0, 0, 0, 0, 1, 0, 1, 0, NONE);
        CHECK.due("HITS, BACK", hits(x), 0, 1);
    }

    private static void fullStore() {
        String twenty = "aaaaaaaaaaaaaaaaaaaa";
        KwicStore x = Check.store(String.join(";", java.util.Collections.nCopies(8, twenty)));
        Check.put(x, 8, twenty);
        Check.put(x, 9, twenty);
        CHECK.due("all SIGNS", x.rule(1), 200);
        CHECK.due("HITS", Check.word(x, "a"), 200);
        CHECK.due("the first", x.hit(0, 1), 19);
        CHECK.due("the last", x.rank(9, 0), 199);
        CHECK.due("the last of ALL", x.all(199, 0), 9);
        CHECK.due("no more", x.all(200, 0), NONE);
        CHECK.due("twice(0)", x.twice(0), 190);
        CHECK.due("twice(1)", x.twice(1), 20);
        CHECK.due("unlike(6)", x.unlike(6), 1);
        CHECK.due("frequent(6, 0)", x.frequent(6, 0), 150);
        CHECK.due("frequent(6, 2)", x.frequent(6, 2), 14);
        CHECK.due("few", x.few(0, 0), NONE);
        CHECK.due("AFTER a", x.beside(true, 1), 190);
        CHECK.due("lay", x.lay(0, 9), 200);
        CHECK.due("page", x.page(0), 9);
        CHECK.due("LEFT", x.cursor(0, 4), 191);
        int[] most = {0, 0, 1, 20, 10, 1, 1023};
        for (int what = 0; what < most.length; what++) {
            CHECK.due("most(" + what + ")", x.most(what), most[what]);
        }
        Check.tape(x, "b");
        CHECK.due("would", x.would(9), 180);
    }
}
