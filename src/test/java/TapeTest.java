/** Promises 1 to 5 and 35: a new object, the TAPE, FAULTS, texts, STEPS. */
final class TapeTest {
    private static final int NONE = KwicStore.NONE;
    private static final int HIDDEN = KwicStore.HIDDEN;
    private static final String TWENTY = "abcdefghijklmnopqrst";
    private static final Check CHECK = new Check("TapeTest");

    public static void main(String[] args) {
        newObject();
        feed();
        end();
        storeFaults();
        scriptFaults();
        rowFaults();
        textOfStore();
        textOfStoreForgets();
        textOfScript();
        steps();
        CHECK.finish();
    }

    private static void newObject() {
        KwicStore x = new KwicStore();
        for (int what = 0; what <= 5; what++) {
            CHECK.due("new: count(" + what + ")", x.count(what), 0);
        }
        CHECK.due("new: rule(0)", x.rule(0), NONE);
        CHECK.due("new: rule(3)", x.rule(3), NONE);
        CHECK.due("new: statuses", Check.statuses(x), 0, 0, 0, 0);
        CHECK.throwsNoSuchElement(x, 0, 0);
        CHECK.due("new: sign", x.sign(0, 0), NONE);
        CHECK.due("new: hit", x.hit(0, 0), NONE);
        CHECK.due("new: rank", x.rank(0, 0), NONE);
        CHECK.due("new: all", x.all(0, 0), NONE);
        CHECK.due("new: twice", x.twice(0), NONE);
        CHECK.due("new: frequent", x.frequent(1, 0), NONE);
        CHECK.due("new: few", x.few(0, 0), NONE);
        CHECK.due("new: beside", x.beside(true, 0), NONE);
        CHECK.due("new: cursor", x.cursor(0, 0), NONE);
        CHECK.due("new: told", x.told(0, 0, 0), NONE);
        CHECK.due("new: ways", x.ways(1, 1L), NONE);
        CHECK.due("new: log", x.log(0, 0), HIDDEN);
        CHECK.due("new: spell", x.spell(0, NONE), NONE);
        CHECK.due("new: would", x.would(0), NONE);
        CHECK.due("new: step", x.step(0, 0, 0), HIDDEN);
        CHECK.due("new: run", x.run(0, 0), HIDDEN);
        CHECK.due("new: perform", x.perform(0), NONE);
        CHECK.due("new: most", x.most(5), HIDDEN);
    }

    private static void feed() {
        KwicStore x = new KwicStore();
        CHECK.due("feed of zeros", x.feed(0, 0, 0, 0, 0), 0);
        CHECK.due("feed keeps what is no 0", x.feed(0x00610062, 0x63000000, 0, 0x00000064, 0x3B000000), 5);
        CHECK.due("fault behind it: abcd; ends too early", x.fault(0), 5);
        x.end(4);
        CHECK.due("text(0)", x.text(0), 1);
        CHECK.dueLines("feed", x, "abcd");
        CHECK.due("bytes over 127 come, too", x.feed(0xFF80FF80, 0, 0, 0, 0), 4);
        CHECK.due("and are at fault", x.fault(2), 0);
        x.end(0);
        for (int i = 1; i <= 12; i++) {
            CHECK.due("feed " + i, x.feed(0x61616161, 0x61616161, 0x61616161, 0x61616161, 0x61616161), 20 * i);
        }
        CHECK.due("feed to 241", x.feed(0, 0, 0, 0, 0x61), NONE);
        CHECK.due("feed of nothing at 240", x.feed(0, 0, 0, 0, 0), 240);
        CHECK.due("bytes", x.count(2), 240);
        x.end(239);
        CHECK.due("feed of two at 239", x.feed(0x61620000, 0, 0, 0, 0), NONE);
        CHECK.due("nothing came", x.count(2), 239);
        CHECK.due("feed of one at 239", x.feed(0, 0x62000000, 0, 0, 0), 240);
    }

    private static void end() {
        KwicStore x = new KwicStore();
        CHECK.due("end(0) of none", x.end(0), true);
        CHECK.due("end(1) of none", x.end(1), false);
        Check.tape(x, "ab_c");
        CHECK.due("end(5)", x.end(5), false);
        CHECK.due("end(-1)", x.end(-1), false);
        CHECK.due("end(MIN)", x.end(Integer.MIN_VALUE), false);
        CHECK.due("end(MAX)", x.end(Integer.MAX_VALUE), false);
        CHECK.due("bytes", x.count(2), 4);
        CHECK.due("end(4)", x.end(4), true);
        CHECK.due("bytes", x.count(2), 4);
        CHECK.due("end(2)", x.end(2), true);
        CHECK.due("bytes", x.count(2), 2);
        x.text(0);
        CHECK.dueLines("end(2)", x, "ab");
    }

    private static void fault(int sort, String text, int want) {
        KwicStore x = new KwicStore();
        Check.tape(x, text);
        CHECK.due("fault(" + sort + ") of '" + text + "'", x.fault(sort), want);
        CHECK.due("the TAPE stays", x.count(2), text.length());
    }

    private static void storeFaults() {
        fault(0, "", 0);
        fault(0, "   ", 3);
        fault(0, "a", NONE);
        fault(0, "z_;_z", NONE);
        fault(0, "  a  b ; c  ", NONE);
        fault(0, ";", 0);
        fault(0, "a;", 2);
        fault(0, "a; ", 3);
        fault(0, "a;;b", 2);
        fault(0, "aBc", 1);
        fault(0, "a`", 1);
        fault(0, "a{", 1);
        fault(0, "a^", 1);
        fault(0, "a1", 1);
        fault(0, "a\tb", 1);
        fault(0, TWENTY, NONE);
        fault(0, TWENTY + " ", NONE);
        fault(0, TWENTY + "u", 20);
        fault(0, TWENTY + "  u", 22);
        fault(0, "a;" + TWENTY + ";" + TWENTY + "u", 43);
        fault(0, "a;b;c;d;e;f;g;h", NONE);
        fault(0, "a;b;c;d;e;f;g;h ;", 16);
        fault(0, "a;b;c;d;e;f;g;h;i", 15);
        fault(0, "a" + " ".repeat(239), NONE);
        fault(0, " ".repeat(240), 240);
        fault(0, " ".repeat(239) + "a", NONE);
    }

    private static void scriptFaults() {
        fault(1, "", 0);
        fault(1, "r0:a;i1:b;d2;s3,4;c5,6:c;p7;w8;b9,0;j1", NONE);
        fault(1, " r 0 : a b ; s 1 , 2 ; c 9 , 0 : _ ", NONE);
        fault(1, "x0", 0);
        fault(1, ";", 0);
        fault(1, "R0:a", 0);
        fault(1, "r", 1);
        fault(1, "ra", 1);
        fault(1, "r0", 2);
        fault(1, "r0a", 2);
        fault(1, "r0,1:a", 2);
        fault(1, "r0:", 3);
        fault(1, "r0:;", 3);
        fault(1, "r0:1", 3);
        fault(1, "r0:" + TWENTY, NONE);
        fault(1, "r0:" + TWENTY + "u", 23);
        fault(1, "i0:" + TWENTY, NONE);
        fault(1, "i0:" + TWENTY + "u", 23);
        fault(1, "d0:a", 2);
        fault(1, "d10", 2);
        fault(1, "d/", 1);
        fault(1, "d:", 1);
        fault(1, "s0", 2);
        fault(1, "s0,", 3);
        fault(1, "s01", 2);
        fault(1, "s0,1,", 4);
        fault(1, "s0,1:a", 4);
        fault(1, "c0:a", 2);
        fault(1, "c0,1", 4);
        fault(1, "c0,1:", 5);
        fault(1, "c0,1:abcdef", NONE);
        fault(1, "c0,1:abcdefg", 11);
        fault(1, "c0,10:a", 4);
        fault(1, "p0,1", 2);
        fault(1, "w", 1);
        fault(1, "b0", 2);
        fault(1, "b0,1;", 5);
        fault(1, "j0;j", 4);
        fault(1, "d0;d0;d0;d0;d0;d0;d0;d0;d0;d0;d0;d0", NONE);
        fault(1, "d0;d0;d0;d0;d0;d0;d0;d0;d0;d0;d0;d0 ;", 36);
        fault(1, "d0;d0;d0;d0;d0;d0;d0;d0;d0;d0;d0;d0;d0", 35);
    }

    private static void rowFaults() {
        fault(2, "", 0);
        fault(2, " ", 1);
        fault(2, " a _ z ", NONE);
        fault(2, "a;b", 1);
        fault(2, TWENTY, NONE);
        fault(2, TWENTY + "u", 20);
        fault(2, "ab:", 2);
        fault(3, "", 0);
        fault(3, "a b c d e f ", NONE);
        fault(3, "abcdefg", 6);
        fault(3, "a;", 1);
        fault(3, "A", 0);
        fault(4, "a", -2);
        fault(-1, "a", -2);
    }

    private static void textOfStore() {
        KwicStore x = new KwicStore();
        Check.tape(x, " a b ; _z ;c");
        CHECK.due("text(2)", x.text(2), NONE);
        CHECK.due("text(-1)", x.text(-1), NONE);
        CHECK.due("text(1) of a STORE", x.text(1), NONE);
        CHECK.due("the TAPE stays", x.count(2), 12);
        CHECK.due("text(0)", x.text(0), 3);
        CHECK.due("the TAPE is empty", x.count(2), 0);
        CHECK.dueLines("text(0)", x, "ab;_z;c");
        CHECK.due("numbers", Check.numbers(x), 0, 1, 2);
        CHECK.due("NUMBERS given", x.count(5), 3);
        Check.tape(x, "ab;;");
        CHECK.due("text(0) with a FAULT", x.text(0), NONE);
        CHECK.due("the TAPE stays", x.count(2), 4);
        CHECK.dueLines("a FAULT", x, "ab;_z;c");
        KwicStore eight = Check.store(TWENTY + ";b;c;d;e;f;g;" + TWENTY);
        CHECK.due("eight LINES", eight.rule(0), 8);
        CHECK.due("their SIGNS", eight.rule(1), 46);
    }

    private static void textOfStoreForgets() {
        KwicStore x = Check.store("ab;a;b");
        Check.word(x, "a");
        x.lay(1, 2);
        x.page(1);
        Check.put(x, 0, "c");
        x.take(9);
        x.image();
        Check.script(x, "c0,1:a;p0");
        CHECK.due("run", x.run(0, 0), NONE);
        CHECK.due("ALL ahead", x.all(4, 0), 0);
        Check.tape(x, "a_a");
        CHECK.due("text(0) anew", x.text(0), 1);
        CHECK.due("ALL anew", x.all(0, 1), 1);
        CHECK.due("no fifth place", x.all(4, 0), NONE);
        CHECK.due("no WORD in hand", x.rule(3), 0);
        CHECK.due("no HITS", x.rule(2), 0);
        CHECK.due("no HIT", x.hit(0, 0), NONE);
        CHECK.due("no CURSOR", x.most(5), 0);
        CHECK.due("no PAGE is told", x.told(1, 0, 0), NONE);
        CHECK.due("no LOG", x.count(3), 0);
        CHECK.due("nothing to be UNDONE", x.undo(), NONE);
        CHECK.due("no IMAGE", x.back(), NONE);
        CHECK.due("numbers anew", Check.numbers(x), 0);
        CHECK.due("NUMBERS given", x.count(5), 1);
        CHECK.due("SCRIPTS stay", x.count(1), 1);
        CHECK.due("STATUS stays", Check.statuses(x), 1, 0, 0, 0);
    }

    private static void textOfScript() {
        KwicStore x = new KwicStore();
        for (int i = 0; i < 4; i++) {
            CHECK.due("text(1)", Check.script(x, "d" + i), i);
            CHECK.due("the TAPE is empty", x.count(2), 0);
        }
        CHECK.due("a fifth SCRIPT", Check.script(x, "d7"), NONE);
        CHECK.due("the TAPE stays", x.count(2), 2);
        CHECK.due("no FAULT all the same", x.fault(1), NONE);
        CHECK.due("SCRIPTS", x.count(1), 4);
        CHECK.due("the fourth is as it was", x.step(3, 0, 1), 3);
        CHECK.due("no fifth", x.step(4, 0, 1), HIDDEN);
        KwicStore y = new KwicStore();
        CHECK.due("a SCRIPT with a FAULT", Check.script(y, "d0;d0;d"), NONE);
        CHECK.due("the TAPE stays", y.count(2), 7);
        CHECK.due("SCRIPTS", y.count(1), 0);
        CHECK.due("a shorter one in its stead", Check.script(y, "d0"), 0);
        CHECK.due("one STEP", y.step(0, 1, 0), HIDDEN);
        Check.tape(y, "a;b;c");
        y.text(0);
        CHECK.due("all can be", y.run(0, 0), NONE);
        CHECK.due("one is TAKEN", y.run(0, 1), 2);
        CHECK.due("one is done", y.perform(0), 1);
    }

    private static void steps() {
        KwicStore x = new KwicStore();
        Check.script(x, "w0");
        Check.script(x, "r1:ab c;i2:d;d3;s4,5;c6,7:abcd;p8;w9;b0,1;j2");
        Check.script(x, "j4");
        int[][] want = {
            {0, 1, HIDDEN, 3}, {1, 2, HIDDEN, 1}, {2, 3, HIDDEN, 0}, {3, 4, 5, 0}, {4, 6, 7, 4},
            {5, 8, HIDDEN, 0}, {6, 9, HIDDEN, 0}, {7, 0, 1, 0}, {8, 2, HIDDEN, 0},
        };
        for (int i = 0; i < want.length; i++) {
            for (int what = 0; what < 4; what++) {
                CHECK.due("step(1, " + i + ", " + what + ")", x.step(1, i, what), want[i][what]);
            }
        }
        CHECK.due("no such STEP", x.step(1, 9, 0), HIDDEN);
        CHECK.due("no such STEP", x.step(1, -1, 0), HIDDEN);
        CHECK.due("no such STEP of another", x.step(0, 1, 0), HIDDEN);
        CHECK.due("no such SCRIPT", x.step(3, 0, 0), HIDDEN);
        CHECK.due("no such SCRIPT", x.step(-1, 0, 0), HIDDEN);
        CHECK.due("no such what", x.step(1, 0, 4), HIDDEN);
        CHECK.due("no such what", x.step(1, 0, -1), HIDDEN);
        CHECK.due("the third", x.step(2, 0, 1), 4);
    }
}
