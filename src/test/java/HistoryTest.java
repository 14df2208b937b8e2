/** Promises 29, 31, 32, 36, 37, 39 to 41: WAYS, what is UNDONE, the LOG, SCRIPTS that are run, IMAGES, counts. */
final class HistoryTest {
    private static final int NONE = KwicStore.NONE;
    private static final int HIDDEN = KwicStore.HIDDEN;
    private static final Check CHECK = new Check("HistoryTest");

    public static void main(String[] args) {
        ways();
        waysOneByOne();
        undo();
        undoCursors();
        undoForty();
        undoCursorsLaidAnew();
        undoLog();
        backLog();
        log();
        run();
        runOfEachStep();
        perform();
        performStops();
        image();
        count();
        CHECK.finish();
    }

    private static void ways() {
        KwicStore x = Check.store("ab;_");
        CHECK.due("n 0", x.ways(0, 5L), NONE);
        CHECK.due("n 41", x.ways(41, 5L), NONE);
        CHECK.due("n -1", x.ways(-1, 5L), NONE);
        CHECK.dueLines("what was refused", x, "ab;_");
        CHECK.due("all SIGNS", x.ways(40, 5L), x.rule(1));
        CHECK.due("no STATUS", Check.statuses(x), 0, 0, 0, 0);
        KwicStore same = Check.store("ab;_");
        same.ways(40, 5L);
        CHECK.dueLines("the same seed", same, Check.lines(x));
        KwicStore one = Check.store("ab;_");
        int acts = 0;
        for (long start = 0; start < 40; start++) {
            CHECK.due("n 1", one.ways(1, start * 7919L), one.rule(1));
            CHECK.due("one ACT at most", one.count(3) - acts <= 1, true);
            acts = one.count(3);
        }
        CHECK.due("ACTS", acts > 10, true);
    }

    private static long seed;

    private static int draw(int j) {
        seed = seed * 6364136223846793005L + 1442695040888963407L;
        return (int) ((seed >>> 33) % j);
    }

    private static String drawnSigns() {
        StringBuilder signs = new StringBuilder();
        for (int i = draw(6) + 1; i > 0; i--) {
            signs.append("ab_".charAt(draw(3)));
        }
        return signs.toString();
    }

    /** The same ACTS by calls of their own. */
    private static void drawnAct(KwicStore x) {
        int lines = x.count(0);
        int sort = draw(8);
        if (sort < 3) {
            int k = draw(lines);
            Check.set(x, k, drawnSigns());
        } else if (sort == 3) {
            int k = draw(lines + 1);
            Check.put(x, k, drawnSigns());
        } else if (sort == 4) {
            x.take(draw(lines));
        } else if (sort == 5) {
            int k = draw(lines);
            x.swap(k, draw(lines));
        } else if (sort == 6) {
            x.page(draw(3));
        } else {
            x.rewind(draw(3));
        }
    }

    private static void waysOneByOne() {
        for (long start = -20; start <= 20; start++) {
            KwicStore x = Check.store("ab;_;aab");
            KwicStore y = Check.store("ab;_;aab");
            Check.word(x, "a");
            Check.word(y, "a");
            x.lay(1, 2);
            y.lay(1, 2);
            x.ways(25, start * 1000003L);
            seed = start * 1000003L;
            for (int i = 0; i < 25; i++) {
                drawnAct(y);
            }
            CHECK.dueLines("ways by " + start, x, Check.lines(y));
            CHECK.due("numbers", Check.numbers(x), Check.numbers(y));
            CHECK.due("told", Check.told(x, 1), Check.told(y, 1));
            CHECK.due("LOG", x.count(3), y.count(3));
            for (int i = 0; i < x.count(3); i++) {
                CHECK.due("LOG " + i, Check.log(x, i), Check.log(y, i));
            }
        }
    }

    private static void undo() {
        KwicStore x = Check.store("ab;cd");
        CHECK.due("none", x.undo(), NONE);
        Check.set(x, 0, "x");
        Check.put(x, 1, "yz");
        x.take(0);
        x.swap(0, 1);
        x.split(1, 1);
        x.join(0);
        String[] lines = {"cdy;z", "cd;y;z", "cd;yz", "yz;cd", "x;yz;cd", "x;cd", "ab;cd"};
        for (int i = 0; i < lines.length; i++) {
            CHECK.dueLines(i + " were UNDONE", x, lines[i]);
            CHECK.due("LOG", x.count(3), 6 - i);
            CHECK.due("undo", x.undo(), 5 - i);
        }
        CHECK.due("none", x.undo(), NONE);
        CHECK.due("numbers", Check.numbers(x), 0, 1);
        CHECK.due("NUMBERS given", x.count(5), 2);
        CHECK.due("the next NUMBER", Check.put(x, 0, "n"), 2);
        CHECK.due("LOG", Check.log(x, 0), 1, 2, 5);
    }

    private static void undoCursors() {
        KwicStore x = Check.store("xb;xa");
        Check.word(x, "x");
        x.lay(0, 1);
        x.page(0);
        x.page(0);
        x.rewind(0);
        x.undo();
        CHECK.due("not REWOUND", Check.told(x, 0), 0, 0);
        CHECK.due("all on PAGES", x.cursor(0, 3), 2);
        CHECK.due("LEFT", x.cursor(0, 4), 0);
        x.undo();
        CHECK.due("the PAGE ahead", Check.told(x, 0), 1, 0);
        CHECK.due("LEFT", x.cursor(0, 4), 1);
        x.undo();
        CHECK.due("no MARK", x.cursor(0, 5), 0);
        CHECK.due("undo", x.undo(), 0);
        CHECK.due("no CURSOR", x.cursor(0, 0), NONE);
        CHECK.due("the WORD stays", x.rule(2), 2);
    }

    private static void undoForty() {
        KwicStore x = Check.store("a;b");
        for (int i = 0; i < 75; i++) {
            Check.set(x, 0, i % 2 == 0 ? "aa" : "a");
        }
        x.swap(0, 1);
        CHECK.due("ACTS that can be UNDONE", x.count(4), 40);
        CHECK.due("the LOG's latest sixty", x.count(3), 60);
        CHECK.due("its last", Check.log(x, 59), 0, 0, 3);
        CHECK.due("no more", x.log(60, 0), HIDDEN);
        for (int i = 39; i >= 0; i--) {
            CHECK.due("undo", x.undo(), i);
        }
        CHECK.due("no forty-first", x.undo(), NONE);
        CHECK.dueLines("forty were UNDONE", x, "a;b");
        CHECK.due("the LOG is as it was behind 36", x.count(3), 36);
        CHECK.due("its latest", Check.log(x, 0), 0, 0, 2);
        x.swap(0, 1);
        CHECK.due("one more", x.count(4), 1);
        CHECK.due("undo", x.undo(), 0);
    }

    private static void undoCursorsLaidAnew() {
        KwicStore x = Check.store("xxa;yb");
        Check.word(x, "x");
        x.lay(0, 1);
        x.page(0);
        CHECK.due("told", Check.told(x, 0), 0, 1);
        Check.word(x, "yb");
        x.image();
        x.lay(0, 2);
        x.page(0);
        CHECK.due("told", Check.told(x, 0), 1, 0);
        x.undo();
        x.undo();
        CHECK.due("the WORD of the CURSOR", x.cursor(0, 1), 1);
        CHECK.due("its SIZE", x.cursor(0, 0), 1);
        CHECK.due("told", Check.told(x, 0), 0, 1);
        CHECK.due("LEFT", x.cursor(0, 4), 1);
        x.lay(0, 2);
        x.page(0);
        x.back();
        CHECK.due("BACK: the WORD of the CURSOR", x.cursor(0, 1), 1);
        CHECK.due("BACK: told", Check.told(x, 0), 0, 1);
        CHECK.due("BACK: LEFT", x.cursor(0, 4), 1);
        x.page(0);
        CHECK.due("told", Check.told(x, 0), 0, 0);
    }

    /** Seventy-two ACTS of unlike numbers and SIGNS, by few calls. */
    private static KwicStore withLongLog() {
        KwicStore x = Check.store("a;b;c");
        Check.script(x, "r0:aa;r1:abc;r2:abcd;r0:abcde;r1:ab;r2:abc;s0,2;s1,2;s0,2;r0:a;r1:b;r2:c");
        for (int i = 0; i < 6; i++) {
            CHECK.due("perform", x.perform(0), 12);
        }
        return x;
    }

    private static int[][] wholeLog(KwicStore x) {
        int[][] log = new int[60][];
        for (int i = 0; i < 60; i++) {
            log[i] = Check.log(x, i);
        }
        return log;
    }

    /** What the LOG had is in it again, also what sixty later ones had pushed out. */
    private static void undoLog() {
        KwicStore x = withLongLog();
        int[][] want = wholeLog(x);
        for (int i = 0; i < 40; i++) {
            x.swap(i % 2, 2);
        }
        CHECK.due("the LOG", Check.log(x, 59), want[19]);
        for (int i = 0; i < 40; i++) {
            x.undo();
        }
        for (int i = 0; i < 60; i++) {
            CHECK.due("UNDONE: the LOG " + i, Check.log(x, i), want[i]);
        }
    }

    private static void backLog() {
        KwicStore x = withLongLog();
        x.image();
        int[][] want = wholeLog(x);
        for (int i = 0; i < 75; i++) {
            x.swap(i % 2, 2);
        }
        x.back();
        for (int i = 0; i < 60; i++) {
            CHECK.due("BACK: the LOG " + i, Check.log(x, i), want[i]);
        }
        CHECK.due("no more", x.log(60, 0), HIDDEN);
    }

    private static void log() {
        KwicStore x = Check.store("ab");
        CHECK.due("empty", x.log(0, 0), HIDDEN);
        Check.put(x, 1, "c");
        x.swap(0, 1);
        CHECK.due("the latest", Check.log(x, 0), 3, 0, 3);
        CHECK.due("the one ahead", Check.log(x, 1), 1, 1, 3);
        CHECK.due("no such one", x.log(2, 0), HIDDEN);
        CHECK.due("no such one", x.log(-1, 0), HIDDEN);
        CHECK.due("no such what", x.log(0, 3), HIDDEN);
        CHECK.due("no such what", x.log(0, -1), HIDDEN);
        x.take(5);
        CHECK.due("what is refused is not in it", x.count(3), 2);
        KwicStore full = Check.store("a;b");
        for (int i = 0; i < 61; i++) {
            full.swap(i % 2, 1 - i % 2);
        }
        CHECK.due("sixty", full.count(3), 60);
        full.undo();
        CHECK.due("sixty as before the last", full.count(3), 60);
        CHECK.due("its last", full.log(59, 1), 0);
    }

    private static void run() {
        KwicStore x = Check.store("ab;c");
        int script = Check.script(x, "r0:abc;d1;i1:xy;c0,2:a;p0;w0;w0;d0");
        CHECK.due("behind six", x.run(script, 0), 6);
        CHECK.due("all SIGNS", x.run(script, 1), 5);
        CHECK.due("no such what", x.run(script, 2), HIDDEN);
        CHECK.due("no such what", x.run(script, -1), HIDDEN);
        CHECK.due("no such SCRIPT", x.run(1, 0), HIDDEN);
        CHECK.due("no such SCRIPT", x.run(-1, 0), HIDDEN);
        CHECK.dueLines("run", x, "ab;c");
        CHECK.due("no ACT", x.count(3), 0);
        CHECK.due("none that can be UNDONE", x.count(4), 0);
        CHECK.due("no CURSOR", x.most(5), 0);
        CHECK.due("no STATUS", Check.statuses(x), 0, 0, 0, 0);
        int whole = Check.script(x, "s0,1;j0");
        CHECK.due("all can be", x.run(whole, 0), NONE);
        CHECK.due("all SIGNS", x.run(whole, 1), 3);
        KwicStore without = new KwicStore();
        Check.script(without, "d0");
        CHECK.due("no STORE", without.run(0, 0), HIDDEN);
        CHECK.due("no STORE", without.run(0, 1), HIDDEN);
        CHECK.due("no STORE", without.perform(0), NONE);
    }

    /** Each sort of STEP that can be, and each way in which it can't. */
    private static void runOfEachStep() {
        String full = "abcdefghijklmnopqrst;b;c;d;e;f;g;h";
        String[][] rows = {
            {"ab;c", "r1:d", "-1"}, {"ab;c", "r2:d", "0"}, {"ab;c", "r0:ab", "0"},
            {"ab;c", "i2:d", "-1"}, {"ab;c", "i3:d", "0"},
            {full, "i0:a;i0:a", "-1"}, {full, "i0:a;i0:a;i0:a", "2"},
            {"ab;c", "d1", "-1"}, {"ab;c", "d2", "0"}, {"ab;c", "d0;d0", "1"},
            {"ab;c", "s1,0", "-1"}, {"ab;c", "s0,2", "0"}, {"ab;c", "s1,1", "0"},
            {"ab;c", "c2,9:zz", "-1"}, {"ab;c", "c3,1:a", "0"}, {"ab;c", "c0,0:a", "0"},
            {"ab;c", "c1,1:a;p1;w1", "-1"}, {"ab;c", "p0", "0"}, {"ab;c", "w0", "0"},
            {"ab;c", "c1,1:a;w1", "1"}, {"ab;c", "p5", "0"},
            {"ab;c", "b0,1", "-1"}, {"ab;c", "b0,2", "0"}, {"ab;c", "b1,1", "0"}, {"ab;c", "b2,1", "0"},
            {full, "b0,9;b0,5;b0,1", "2"},
            {"ab;c", "j0", "-1"}, {"ab;c", "j1", "0"}, {full, "j0", "0"},
        };
        for (String[] row : rows) {
            KwicStore x = Check.store(row[0]);
            Check.script(x, row[1]);
            int want = Integer.parseInt(row[2]);
            int steps = row[1].split(";").length;
            CHECK.due("run of " + row[1], x.run(0, 0), want);
            int signs = x.run(0, 1);
            CHECK.due("perform of " + row[1], x.perform(0), want == NONE ? steps : want);
            CHECK.due("all SIGNS behind " + row[1], x.rule(1), signs);
            CHECK.due("no STATUS", Check.statuses(x), 0, 0, 0, 0);
        }
    }

    private static void perform() {
        KwicStore x = Check.store("ab;c");
        Check.tape(x, "zz");
        x.word();
        Check.script(x, "r0:cab;c1,1:a;p1;b0,1;s0,1");
        Check.tape(x, "tape");
        CHECK.due("perform", x.perform(0), 5);
        CHECK.dueLines("perform", x, "ab;c;c");
        CHECK.due("numbers", Check.numbers(x), 2, 0, 1);
        CHECK.due("told", Check.told(x, 1), 0, 1);
        CHECK.due("the WORD in hand stays", x.rule(3), 2);
        CHECK.due("the TAPE stays", x.count(2), 4);
        CHECK.due("LOG 0", Check.log(x, 0), 3, 0, 4);
        CHECK.due("LOG 1", Check.log(x, 1), 7, 0, 4);
        CHECK.due("LOG 2", Check.log(x, 2), 5, 1, 4);
        CHECK.due("LOG 3", Check.log(x, 3), 4, 1, 4);
        CHECK.due("LOG 4", Check.log(x, 4), 0, 0, 4);
        CHECK.due("one by one", x.undo(), 4);
        CHECK.dueLines("undo", x, "c;ab;c");
        CHECK.due("no such SCRIPT", x.perform(1), NONE);
        CHECK.due("no such SCRIPT", x.perform(-1), NONE);
    }

    private static void performStops() {
        KwicStore x = Check.store("ab");
        Check.script(x, "d0;r0:q");
        CHECK.due("none", x.perform(0), 0);
        CHECK.dueLines("perform", x, "ab");
        CHECK.due("no STATUS", Check.statuses(x), 0, 0, 0, 0);
        Check.script(x, "r0:q;r0:q;r0:z");
        CHECK.due("one", x.perform(1), 1);
        CHECK.dueLines("perform", x, "q");
        CHECK.due("ACTS", x.count(4), 1);
    }

    private static void image() {
        KwicStore x = Check.store("xb;xa");
        CHECK.due("no IMAGE", x.back(), NONE);
        Check.word(x, "x");
        x.lay(0, 1);
        x.page(0);
        CHECK.due("image", x.image(), 4);
        CHECK.due("no ACT", x.count(4), 2);
        x.page(0);
        Check.put(x, 0, "q");
        x.lay(1, 3);
        Check.word(x, "a");
        CHECK.due("back", x.back(), 4);
        CHECK.dueLines("back", x, "xb;xa");
        CHECK.due("NUMBERS given", x.count(5), 2);
        CHECK.due("told", Check.told(x, 0), 1, 0);
        CHECK.due("CURSORS", x.most(5), 1);
        CHECK.due("the LOG", x.count(3), 2);
        CHECK.due("its latest", Check.log(x, 0), 5, 0, 4);
        CHECK.due("none that can be UNDONE", x.count(4), 0);
        CHECK.due("undo", x.undo(), NONE);
        CHECK.due("the WORD stays", x.rule(2), 1);
        Check.put(x, 0, "qq");
        CHECK.due("back once more", x.back(), 4);
        x.take(0);
        CHECK.due("an IMAGE instead", x.image(), 2);
        Check.set(x, 0, "abc");
        CHECK.due("an IMAGE outlives what is UNDONE", x.undo(), 1);
        x.undo();
        CHECK.due("back to it", x.back(), 2);
        CHECK.dueLines("back", x, "xa");
        Check.tape(x, "new");
        x.text(0);
        CHECK.due("no IMAGE of this STORE", x.back(), NONE);
        CHECK.due("no STORE", new KwicStore().image(), NONE);
    }

    private static void count() {
        KwicStore x = Check.store("ab;c");
        Check.script(x, "j0");
        Check.put(x, 0, "d");
        x.take(1);
        x.undo();
        Check.tape(x, "abc");
        int[] want = {3, 1, 3, 1, 1, 3};
        for (int what = 0; what < want.length; what++) {
            CHECK.due("count(" + what + ")", x.count(what), want[what]);
        }
        CHECK.due("count(6)", x.count(6), HIDDEN);
        CHECK.due("count(-1)", x.count(-1), HIDDEN);
    }
}
