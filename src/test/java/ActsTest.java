/** Promises 18 to 28 and 30: ACTS, CURSORS, what is refused. */
final class ActsTest {
    private static final int NONE = KwicStore.NONE;
    private static final String TWENTY = "abcdefghijklmnopqrst";
    private static final Check CHECK = new Check("ActsTest");

    public static void main(String[] args) {
        set();
        put();
        putTooMuch();
        take();
        swap();
        lay();
        page();
        pageOfEdits();
        pagesWithoutDoubles();
        rewind();
        cursor();
        split();
        join();
        statusWithoutStore();
        status();
        CHECK.finish();
    }

    /** What is refused changes nothing but one STATUS. */
    private static void refused(String call, KwicStore x, int[] before, int answer, int status) {
        CHECK.due(call, answer, NONE);
        for (int what = 0; what < 4; what++) {
            CHECK.due(call + ": status(" + what + ")", x.status(what), before[what] + (what == status ? 1 : 0));
        }
    }

    private static void set() {
        KwicStore x = Check.store("ab;cd;ef");
        x.swap(0, 2);
        CHECK.due("its NUMBER", Check.set(x, 0, " x _"), 2);
        CHECK.due("the TAPE is empty", x.count(2), 0);
        CHECK.dueLines("set(0)", x, "x_;cd;ab");
        CHECK.due("it keeps its NUMBER", Check.numbers(x), 2, 1, 0);
        CHECK.due("LOG", Check.log(x, 0), 0, 2, 6);
        CHECK.due("20 SIGNS", Check.set(x, 1, TWENTY), 1);
        CHECK.due("LOG", Check.log(x, 0), 0, 1, 24);
        Check.tape(x, "x_");
        refused("set(3)", x, Check.statuses(x), x.set(3), 0);
        refused("set(-1)", x, Check.statuses(x), x.set(-1), 0);
        refused("set(0) as it is", x, Check.statuses(x), x.set(0), 2);
        CHECK.due("the TAPE stays", x.count(2), 2);
        Check.tape(x, "a;b");
        refused("set(3) of no SIGNS", x, Check.statuses(x), x.set(3), 0);
        refused("set(0) of no SIGNS", x, Check.statuses(x), x.set(0), 1);
        CHECK.due("the TAPE stays", x.count(2), 3);
        Check.tape(x, TWENTY + "u");
        refused("set(0) of 21 SIGNS", x, Check.statuses(x), x.set(0), 1);
        CHECK.dueLines("what was refused", x, "x_;" + TWENTY + ";ab");
        CHECK.due("a part of it is another one", Check.set(x, 0, "x"), 2);
        CHECK.due("ACTS", x.count(3), 4);
    }

    private static void put() {
        KwicStore x = Check.store("ab;cd");
        CHECK.due("put(0)", Check.put(x, 0, "x y"), 2);
        CHECK.due("the TAPE is empty", x.count(2), 0);
        CHECK.due("put(3)", Check.put(x, 3, "z"), 3);
        CHECK.due("put(2)", Check.put(x, 2, "ab"), 4);
        CHECK.dueLines("put", x, "xy;ab;ab;cd;z");
        CHECK.due("numbers", Check.numbers(x), 2, 0, 4, 1, 3);
        CHECK.due("NUMBERS given", x.count(5), 5);
        CHECK.due("LOG", Check.log(x, 0), 1, 4, 9);
        Check.tape(x, "q");
        refused("put(6)", x, Check.statuses(x), x.put(6), 0);
        refused("put(-1)", x, Check.statuses(x), x.put(-1), 0);
        Check.tape(x, "");
        refused("put(0) of nothing", x, Check.statuses(x), x.put(0), 1);
        refused("put(7) of nothing", x, Check.statuses(x), x.put(7), 0);
        CHECK.due("ACTS", x.count(3), 3);
    }

    private static void putTooMuch() {
        KwicStore x = Check.store("a;b;c;d;e;f;g;h");
        CHECK.due("a ninth", Check.put(x, 8, "i"), 8);
        CHECK.due("a tenth", Check.put(x, 0, "j"), 9);
        Check.tape(x, "k");
        refused("an eleventh", x, Check.statuses(x), x.put(10), 3);
        CHECK.due("the TAPE stays", x.count(2), 1);
        refused("no such k", x, Check.statuses(x), x.put(11), 0);
        Check.tape(x, "K");
        refused("no SIGNS", x, Check.statuses(x), x.put(0), 1);
        CHECK.dueLines("put", x, "j;a;b;c;d;e;f;g;h;i");
        x.take(4);
        CHECK.due("the next NUMBER", Check.put(x, 4, "d"), 10);
    }

    private static void take() {
        KwicStore x = Check.store("ab;c;def");
        refused("take(3)", x, Check.statuses(x), x.take(3), 0);
        refused("take(-1)", x, Check.statuses(x), x.take(-1), 0);
        CHECK.due("take(1)", x.take(1), 1);
        CHECK.dueLines("take(1)", x, "ab;def");
        CHECK.due("LOG", Check.log(x, 0), 2, 1, 5);
        CHECK.due("take(1)", x.take(1), 3);
        CHECK.due("LOG", Check.log(x, 0), 2, 2, 2);
        refused("take(0) of the only one", x, Check.statuses(x), x.take(0), 2);
        refused("take(1)", x, Check.statuses(x), x.take(1), 0);
        CHECK.dueLines("take", x, "ab");
        CHECK.due("NUMBERS given stay", x.count(5), 3);
    }

    private static void swap() {
        KwicStore x = Check.store("a;b;c");
        CHECK.due("swap(0, 2)", x.swap(0, 2), 2);
        CHECK.dueLines("swap(0, 2)", x, "c;b;a");
        CHECK.due("numbers", Check.numbers(x), 2, 1, 0);
        CHECK.due("LOG", Check.log(x, 0), 3, 0, 3);
        CHECK.due("swap(1, 0)", x.swap(1, 0), 2);
        CHECK.dueLines("swap(1, 0)", x, "b;c;a");
        CHECK.due("LOG", Check.log(x, 0), 3, 1, 3);
        refused("swap(0, 3)", x, Check.statuses(x), x.swap(0, 3), 0);
        refused("swap(3, 0)", x, Check.statuses(x), x.swap(3, 0), 0);
        refused("swap(-1, 0)", x, Check.statuses(x), x.swap(-1, 0), 0);
        refused("swap(3, 3)", x, Check.statuses(x), x.swap(3, 3), 0);
        refused("swap(1, 1)", x, Check.statuses(x), x.swap(1, 1), 2);
        CHECK.due("ACTS", x.count(4), 2);
    }

    private static void lay() {
        KwicStore x = Check.store("ab;cab");
        refused("no WORD in hand", x, Check.statuses(x), x.lay(0, 1), 1);
        Check.word(x, "ab");
        CHECK.due("lay(2, 9)", x.lay(2, 9), 2);
        CHECK.due("LOG", Check.log(x, 0), 4, 2, 5);
        CHECK.due("SIZE", x.cursor(2, 0), 9);
        CHECK.due("SIGNS of the WORD", x.cursor(2, 1), 2);
        CHECK.due("lay(0, 1)", x.lay(0, 1), 2);
        refused("lay(3, 1)", x, Check.statuses(x), x.lay(3, 1), 0);
        refused("lay(-1, 0)", x, Check.statuses(x), x.lay(-1, 0), 0);
        refused("lay(0, 0)", x, Check.statuses(x), x.lay(0, 0), 1);
        refused("lay(0, 10)", x, Check.statuses(x), x.lay(0, 10), 1);
        CHECK.due("what was refused", x.cursor(0, 0), 1);
        x.page(0);
        Check.word(x, "b");
        CHECK.due("laid anew", x.lay(0, 3), 2);
        CHECK.due("another WORD", x.cursor(0, 1), 1);
        CHECK.due("no MARK", x.cursor(0, 5), 0);
        CHECK.due("no PAGE", x.cursor(0, 2), 0);
        CHECK.due("no PAGES", x.cursor(0, 3), 0);
        Check.word(x, "c");
        CHECK.due("it keeps its own WORD", x.cursor(0, 4), 2);
        Check.word(x, "zz");
        CHECK.due("a WORD that is nowhere", x.lay(1, 1), 0);
        CHECK.due("an empty PAGE", x.page(1), 0);
        CHECK.due("no MARK then", x.cursor(1, 5), 0);
    }

    private static void page() {
        KwicStore x = Check.store("xb;xa;x_;x;ax");
        Check.word(x, "x");
        x.lay(1, 2);
        CHECK.due("a first PAGE", x.page(1), 2);
        CHECK.due("told", Check.told(x, 1), 3, 0, 4, 1);
        CHECK.due("LOG", Check.log(x, 0), 5, 1, 9);
        CHECK.due("LEFT", x.cursor(1, 4), 3);
        CHECK.due("a second PAGE", x.page(1), 2);
        CHECK.due("told", Check.told(x, 1), 2, 0, 1, 0);
        CHECK.due("a third PAGE", x.page(1), 1);
        CHECK.due("told", Check.told(x, 1), 0, 0);
        CHECK.due("all on PAGES", x.cursor(1, 3), 5);
        CHECK.due("no more", x.page(1), 0);
        CHECK.due("no HIT is told", x.told(1, 0, 0), NONE);
        CHECK.due("the MARK stays", x.cursor(1, 5), 1);
        CHECK.due("an ACT all the same", x.count(3), 5);
        refused("page(0)", x, Check.statuses(x), x.page(0), 0);
        refused("page(3)", x, Check.statuses(x), x.page(3), 0);
        refused("page(-1)", x, Check.statuses(x), x.page(-1), 0);
        x.undo();
        CHECK.due("told as it was", Check.told(x, 1), 0, 0);
        CHECK.due("no such HIT", x.told(1, 1, 0), NONE);
        CHECK.due("no such HIT", x.told(1, -1, 0), NONE);
        CHECK.due("no such what", x.told(1, 0, 2), NONE);
        CHECK.due("no such what", x.told(1, 0, -1), NONE);
        CHECK.due("no CURSOR", x.told(0, 0, 0), NONE);
        CHECK.due("no such CURSOR", x.told(3, 0, 0), NONE);
        CHECK.due("no such CURSOR", x.told(-1, 0, 0), NONE);
    }

    private static void pageOfEdits() {
        KwicStore x = Check.store("xb;xd;xf");
        Check.word(x, "x");
        x.lay(0, 2);
        x.page(0);
        CHECK.due("told", Check.told(x, 0), 0, 0, 1, 0);
        Check.set(x, 1, "q");
        CHECK.due("told as it was", Check.told(x, 0), 0, 0, 1, 0);
        CHECK.due("the MARK is as it was", x.cursor(0, 4), 1);
        Check.put(x, 0, "xc");
        CHECK.due("what comes ahead of the MARK is not LEFT", x.cursor(0, 4), 1);
        Check.put(x, 0, "xe");
        CHECK.due("what comes behind it is", x.cursor(0, 4), 2);
        Check.put(x, 0, "xd");
        CHECK.due("one like the MARK, with a greater NUMBER", x.cursor(0, 4), 3);
        Check.set(x, 3, "xd");
        CHECK.due("one like the MARK, with a lesser NUMBER", x.cursor(0, 4), 3);
        Check.set(x, 4, "axd");
        CHECK.due("the one of the MARK, with more AHEAD", x.cursor(0, 4), 4);
        CHECK.due("a PAGE", x.page(0), 2);
        CHECK.due("told", Check.told(x, 0), 5, 0, 1, 1);
        x.take(0);
        x.page(0);
        CHECK.due("told", Check.told(x, 0), 4, 0, 2, 0);
        CHECK.due("all on PAGES", x.cursor(0, 3), 6);
    }

    private static void pagesWithoutDoubles() {
        KwicStore x = Check.store("aaaaaaaaaaaaaaaaaaaa;aaaaaaaaaaaaaaaaaaaa");
        Check.word(x, "aa");
        CHECK.due("HITS", x.lay(2, 9), 38);
        boolean[] seen = new boolean[64];
        int[] sizes = {9, 9, 9, 9, 2, 0};
        for (int size : sizes) {
            CHECK.due("a PAGE", x.page(2), size);
            int[] told = Check.told(x, 2);
            for (int i = 0; i < size; i++) {
                int spot = told[2 * i] * 32 + told[2 * i + 1];
                CHECK.due("told twice", seen[spot], false);
                seen[spot] = true;
            }
        }
        CHECK.due("all on PAGES", x.cursor(2, 3), 38);
    }

    private static void rewind() {
        KwicStore x = Check.store("xb;xa");
        Check.word(x, "x");
        x.lay(0, 1);
        refused("no MARK", x, Check.statuses(x), x.rewind(0), 2);
        refused("no CURSOR", x, Check.statuses(x), x.rewind(1), 0);
        refused("no such CURSOR", x, Check.statuses(x), x.rewind(3), 0);
        refused("no such CURSOR", x, Check.statuses(x), x.rewind(-1), 0);
        x.page(0);
        x.page(0);
        CHECK.due("LEFT", x.rewind(0), 2);
        CHECK.due("LOG", Check.log(x, 0), 6, 0, 4);
        CHECK.due("no MARK", x.cursor(0, 5), 0);
        CHECK.due("no PAGE", x.cursor(0, 2), 0);
        CHECK.due("no HIT is told", x.told(0, 0, 0), NONE);
        CHECK.due("none on PAGES", x.cursor(0, 3), 0);
        CHECK.due("the SIZE stays", x.cursor(0, 0), 1);
        x.page(0);
        CHECK.due("from the first on", Check.told(x, 0), 1, 0);
    }

    private static void cursor() {
        KwicStore x = Check.store("abx;ax");
        Check.word(x, "x");
        x.lay(1, 1);
        int[] laid = {1, 1, 0, 0, 2, 0};
        for (int what = 0; what < laid.length; what++) {
            CHECK.due("laid: cursor(1, " + what + ")", x.cursor(1, what), laid[what]);
        }
        x.page(1);
        int[] paged = {1, 1, 1, 1, 1, 1};
        for (int what = 0; what < paged.length; what++) {
            CHECK.due("a PAGE: cursor(1, " + what + ")", x.cursor(1, what), paged[what]);
        }
        CHECK.due("no such what", x.cursor(1, 6), NONE);
        CHECK.due("no such what", x.cursor(1, -1), NONE);
        CHECK.due("it is none", x.cursor(0, 0), NONE);
        CHECK.due("no such CURSOR", x.cursor(3, 0), NONE);
        CHECK.due("no such CURSOR", x.cursor(-1, 0), NONE);
    }

    private static void split() {
        KwicStore x = Check.store("abc;d");
        refused("split(0, 0)", x, Check.statuses(x), x.split(0, 0), 1);
        refused("split(0, 3)", x, Check.statuses(x), x.split(0, 3), 1);
        refused("split(0, -1)", x, Check.statuses(x), x.split(0, -1), 1);
        refused("split(1, 1)", x, Check.statuses(x), x.split(1, 1), 1);
        refused("split(2, 1)", x, Check.statuses(x), x.split(2, 1), 0);
        refused("split(-1, 0)", x, Check.statuses(x), x.split(-1, 0), 0);
        CHECK.due("split(0, 1)", x.split(0, 1), 2);
        CHECK.dueLines("split(0, 1)", x, "a;bc;d");
        CHECK.due("numbers", Check.numbers(x), 0, 2, 1);
        CHECK.due("LOG", Check.log(x, 0), 7, 0, 4);
        CHECK.due("split(1, 1)", x.split(1, 1), 3);
        CHECK.due("LOG", Check.log(x, 0), 7, 2, 4);
        CHECK.dueLines("split(1, 1)", x, "a;b;c;d");
        KwicStore full = Check.store("abc;b;c;d;e;f;g;h");
        Check.put(full, 8, "i");
        CHECK.due("to ten LINES", full.split(0, 2), 9);
        CHECK.dueLines("split(0, 2)", full, "ab;c;b;c;d;e;f;g;h;i");
        refused("to eleven", full, Check.statuses(full), full.split(0, 1), 3);
        refused("to eleven, out of bounds", full, Check.statuses(full), full.split(0, 2), 1);
    }

    private static void join() {
        KwicStore x = Check.store("a;bc;d;" + "abcdefghijklmnopq" + ";rs");
        CHECK.due("join(0)", x.join(0), 3);
        CHECK.dueLines("join(0)", x, "abc;d;abcdefghijklmnopq;rs");
        CHECK.due("numbers", Check.numbers(x), 0, 2, 3, 4);
        CHECK.due("LOG", Check.log(x, 0), 8, 0, 23);
        refused("none behind it", x, Check.statuses(x), x.join(3), 0);
        refused("no such LINE", x, Check.statuses(x), x.join(4), 0);
        refused("no such LINE", x, Check.statuses(x), x.join(-1), 0);
        refused("no such LINE", x, Check.statuses(x), x.join(Integer.MAX_VALUE), 0);
        CHECK.due("join(2): 19 SIGNS", x.join(2), 19);
        CHECK.due("join(1): 20 SIGNS", x.join(1), 20);
        CHECK.due("LOG", Check.log(x, 0), 8, 2, 23);
        refused("join(0): 23 SIGNS", x, Check.statuses(x), x.join(0), 3);
        CHECK.due("what stands behind both", Check.store("a;b;abcdefghijklmnopqrst").join(0), 2);
        CHECK.dueLines("join", x, "abc;dabcdefghijklmnopqrs");
        CHECK.due("join(0) of one LINE", Check.store("a").join(0), NONE);
    }

    private static void statusWithoutStore() {
        KwicStore x = new KwicStore();
        Check.tape(x, "a");
        refused("set", x, Check.statuses(x), x.set(0), 0);
        refused("put", x, Check.statuses(x), x.put(0), 0);
        refused("take", x, Check.statuses(x), x.take(0), 0);
        refused("swap", x, Check.statuses(x), x.swap(0, 0), 0);
        refused("lay", x, Check.statuses(x), x.lay(0, 0), 0);
        refused("page", x, Check.statuses(x), x.page(0), 0);
        refused("rewind", x, Check.statuses(x), x.rewind(0), 0);
        refused("split", x, Check.statuses(x), x.split(0, 0), 0);
        refused("join", x, Check.statuses(x), x.join(0), 0);
        CHECK.due("the TAPE stays", x.count(2), 1);
        CHECK.due("no LOG", x.count(3), 0);
    }

    private static void status() {
        KwicStore x = Check.store("ab");
        x.take(0);
        x.split(0, 1);
        x.undo();
        CHECK.due("not UNDONE", Check.statuses(x), 0, 0, 1, 0);
        x.image();
        x.take(1);
        x.back();
        CHECK.due("not in the IMAGE", Check.statuses(x), 1, 0, 1, 0);
        x.text(0);
        x.word();
        x.would(0);
        x.hit(0, 0);
        x.perform(0);
        x.undo();
        CHECK.due("what is no ACT has no STATUS", Check.statuses(x), 1, 0, 1, 0);
        CHECK.due("no such what", x.status(4), NONE);
        CHECK.due("no such what", x.status(-1), NONE);
    }
}
