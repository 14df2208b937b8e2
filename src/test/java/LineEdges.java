import java.util.function.Consumer;

/** Edges of LINES and NUMBERS (==== 2 of the terms), of promises 18 to 21, 27 and 28, and of STATUS, promise 30. */
final class LineEdges extends Edges {
    private static final String[] NO_SIGNS = {"", " ", "a;b", "A", TWENTY + "u"};
    private static final int[] NO_LINE_OF_FOUR = {-1, 4, 10, MIN, MAX};

    private static Consumer<KwicStore> richWith(String tape) {
        return x -> {
            rich(x);
            Check.tape(x, tape);
        };
    }

    private static Consumer<KwicStore> tenWith(String tape) {
        return x -> {
            tenLines(x);
            Check.tape(x, tape);
        };
    }

    private static void onlyOne(KwicStore x) {
        Check.tape(x, "ab;c");
        x.text(0);
        x.take(1);
        Check.tape(x, "z");
    }

    // ==== 2

    static void terms2_tenLinesAtMost() {
        KwicStore x = Check.store(EIGHT_LINES);
        CHECK.due("a ninth", Check.put(x, 0, "i"), 8);
        CHECK.due("a tenth", Check.put(x, 0, "jj"), 9);
        CHECK.due("an eleventh", Check.put(x, 0, "k"), NONE);
        CHECK.due("nor by SPLIT", x.split(0, 1), NONE);
        Check.script(x, "i0:k");
        CHECK.due("nor by a STEP", x.perform(0), 0);
        Check.script(x, "b0,1");
        CHECK.due("nor by that one", x.perform(1), 0);
        CHECK.due("LINES", x.count(0), 10);
        CHECK.due("STATUS", Check.statuses(x), 0, 0, 0, 2);
    }

    static void terms2_waysNeverGoBeyondTenLines() {
        boolean reached = false;
        for (int seed = 0; seed < 300; seed++) {
            KwicStore x = made(Edges::tenLines);
            x.ways(10, seed);
            CHECK.due("ten at most by " + seed, x.count(0) <= 10, true);
            reached |= x.count(0) == 10;
        }
        CHECK.due("ten at times", reached, true);
    }

    static void terms2_numbersAsTheyComeAndNoneTwice() {
        KwicStore x = Check.store("ab;c");
        CHECK.due("PUT IN", Check.put(x, 0, "d"), 2);
        x.take(0);
        CHECK.due("the next, not that of one that is gone", Check.put(x, 0, "d"), 3);
        CHECK.due("SPLIT", x.split(1, 1), 4);
        x.join(1);
        CHECK.due("SPLIT once more", x.split(1, 1), 5);
        CHECK.due("NUMBERS given", x.count(5), 6);
        CHECK.due("numbers", Check.numbers(x), 3, 0, 5, 1);
    }

    static void terms2_theOneThatIsSetKeepsItsNumber() {
        KwicStore x = Check.store("a;b");
        x.swap(0, 1);
        CHECK.due("set(0)", Check.set(x, 0, "c"), 1);
        CHECK.due("numbers", Check.numbers(x), 1, 0);
        CHECK.due("NUMBERS given", x.count(5), 2);
    }

    // Promise 18: set

    static void promise18_theFirstAndTheLastLine() {
        KwicStore x = Check.store("a;b;c");
        CHECK.due("the first", Check.set(x, 0, "x"), 0);
        CHECK.due("the TAPE is empty", x.count(2), 0);
        CHECK.due("the last", Check.set(x, 2, "z"), 2);
        CHECK.dueLines("set", x, "x;b;z");
    }

    static void promise18_noSuchLine() {
        for (int k : NO_LINE_OF_FOUR) {
            refused(0, "set(" + k + ")", Edges::rich, x -> x.set(k));
        }
        refused(0, "no STORE", Edges::withoutStore, x -> x.set(0));
    }

    static void promise18_theTapeIsNoSignsOfALine() {
        for (String tape : NO_SIGNS) {
            refused(1, "set(0) to '" + tape + "'", richWith(tape), x -> x.set(0));
        }
    }

    static void promise18_oneAndTwentySigns() {
        KwicStore x = Check.store("ab;c");
        CHECK.due("one", Check.set(x, 0, "_"), 0);
        CHECK.due("twenty", Check.set(x, 0, TWENTY), 0);
        CHECK.due("SIGNS", x.line(0, 1), 20);
        CHECK.due("one again", Check.set(x, 0, "b"), 0);
        CHECK.dueLines("set", x, "b;c");
    }

    static void promise18_itIsSo() {
        refused(2, "set(0)", richWith("ab"), x -> x.set(0));
        refused(2, "with blanks", richWith(" a b "), x -> x.set(0));
        refused(2, "the last", richWith("abab"), x -> x.set(3));
    }

    static void promise18_nearlySo() {
        for (String signs : new String[] {"a", "abc", "aa", "bb", "ba"}) {
            KwicStore x = Check.store("ab;c");
            CHECK.due("set(0) to " + signs, Check.set(x, 0, signs), 0);
            CHECK.dueLines("set(0)", x, signs + ";c");
        }
        KwicStore x = Check.store("ab;c");
        CHECK.due("like another one", Check.set(x, 0, "c"), 0);
    }

    static void promise18_ofSeveralTheFirst() {
        refused(0, "no such LINE, no SIGNS", richWith(""), x -> x.set(4));
        refused(0, "no STORE, no SIGNS", x -> { }, x -> x.set(0));
    }

    // Promise 19: put

    static void promise19_aheadOfAllAndBehindAll() {
        KwicStore x = Check.store("a;b");
        CHECK.due("ahead of all", Check.put(x, 0, "x"), 2);
        CHECK.due("the TAPE is empty", x.count(2), 0);
        CHECK.due("behind all", Check.put(x, 3, "z"), 3);
        CHECK.due("ahead of the last", Check.put(x, 3, "y"), 4);
        CHECK.dueLines("put", x, "x;a;b;y;z");
    }

    static void promise19_noSuchK() {
        for (int k : new int[] {-1, 5, 10, MIN, MAX}) {
            refused(0, "put(" + k + ")", Edges::rich, x -> x.put(k));
        }
    }

    static void promise19_noStore() {
        refused(0, "put(0)", Edges::withoutStore, x -> x.put(0));
        refused(0, "put(1)", Edges::withoutStore, x -> x.put(1));
    }

    static void promise19_theTapeIsNoSignsOfALine() {
        for (String tape : NO_SIGNS) {
            refused(1, "put(0) of '" + tape + "'", richWith(tape), x -> x.put(0));
            refused(1, "put(4) of '" + tape + "'", richWith(tape), x -> x.put(4));
        }
    }

    static void promise19_oneAndTwentySigns() {
        KwicStore x = Check.store("a");
        CHECK.due("one", Check.put(x, 1, "_"), 1);
        CHECK.due("twenty", Check.put(x, 2, TWENTY), 2);
        CHECK.due("one that is there already", Check.put(x, 0, "a"), 3);
        CHECK.dueLines("put", x, "a;a;_;" + TWENTY);
    }

    static void promise19_tenLinesAreTooMuch() {
        refused(3, "put(0)", Edges::tenLines, x -> x.put(0));
        refused(3, "put(10)", Edges::tenLines, x -> x.put(10));
        KwicStore nine = Check.store(EIGHT_LINES);
        Check.put(nine, 8, "i");
        CHECK.due("at nine", Check.put(nine, 9, "j"), 9);
        CHECK.due("the tenth", nine.sign(9, 0), 'j');
    }

    static void promise19_behindAFullOne() {
        KwicStore x = made(Edges::tenLines);
        x.put(0);
        x.take(0);
        CHECK.due("one is TAKEN, the TAPE stayed", x.put(9), 10);
        CHECK.dueLines("put(9)", x, "b;c;d;e;f;g;h;" + TWENTY + ";jj;k");
    }

    static void promise19_ofSeveralTheFirst() {
        refused(0, "no such k, no SIGNS", richWith("?"), x -> x.put(5));
        refused(0, "no such k, ten LINES", Edges::tenLines, x -> x.put(11));
        refused(0, "all of these", tenWith(""), x -> x.put(-1));
        refused(1, "no SIGNS, ten LINES", tenWith(""), x -> x.put(10));
    }

    // Promise 20: take

    static void promise20_theFirstAndTheLastLine() {
        KwicStore x = Check.store("ab;c;" + TWENTY + ";d");
        CHECK.due("the last: one SIGN", x.take(3), 1);
        CHECK.due("the last: twenty", x.take(2), 20);
        CHECK.due("the first", x.take(0), 2);
        CHECK.dueLines("take", x, "c");
        CHECK.due("its NUMBER", x.line(0, 0), 1);
    }

    static void promise20_noSuchLine() {
        for (int k : NO_LINE_OF_FOUR) {
            refused(0, "take(" + k + ")", Edges::rich, x -> x.take(k));
        }
        refused(0, "no STORE", Edges::withoutStore, x -> x.take(0));
    }

    static void promise20_theOnlyOne() {
        refused(2, "take(0)", LineEdges::onlyOne, x -> x.take(0));
        KwicStore x = made(LineEdges::onlyOne);
        x.put(0);
        CHECK.due("one of two", x.take(0), 1);
    }

    static void promise20_ofSeveralTheFirst() {
        refused(0, "take(1)", LineEdges::onlyOne, x -> x.take(1));
        refused(0, "take(-1)", LineEdges::onlyOne, x -> x.take(-1));
    }

    static void promise20_oneOfTen() {
        KwicStore x = made(Edges::tenLines);
        CHECK.due("the tenth", x.take(9), 2);
        CHECK.due("LINES", x.count(0), 9);
        CHECK.throwsNoSuchElement(x, 9, 0);
    }

    // Promise 21: swap

    static void promise21_theFirstAndTheLastLine() {
        KwicStore x = made(Edges::tenLines);
        CHECK.due("swap(0, 9)", x.swap(0, 9), 9);
        CHECK.due("numbers", Check.numbers(x), 9, 1, 2, 3, 4, 5, 6, 7, 8, 0);
        CHECK.due("swap(9, 8)", x.swap(9, 8), 8);
        CHECK.due("numbers", Check.numbers(x), 9, 1, 2, 3, 4, 5, 6, 7, 0, 8);
        CHECK.dueLines("swap", x, "jj;b;c;d;e;f;g;h;a;" + TWENTY);
    }

    static void promise21_noSuchLines() {
        for (int k : NO_LINE_OF_FOUR) {
            refused(0, "swap(" + k + ", 0)", Edges::rich, x -> x.swap(k, 0));
            refused(0, "swap(0, " + k + ")", Edges::rich, x -> x.swap(0, k));
        }
        refused(0, "no STORE", Edges::withoutStore, x -> x.swap(0, 1));
    }

    static void promise21_bothAreOne() {
        refused(2, "swap(0, 0)", Edges::rich, x -> x.swap(0, 0));
        refused(2, "swap(3, 3)", Edges::rich, x -> x.swap(3, 3));
        refused(2, "of the only one", LineEdges::onlyOne, x -> x.swap(0, 0));
    }

    static void promise21_likeLinesAreTwo() {
        KwicStore x = Check.store("a;a");
        CHECK.due("swap(0, 1)", x.swap(0, 1), 1);
        CHECK.due("numbers", Check.numbers(x), 1, 0);
    }

    static void promise21_ofSeveralTheFirst() {
        refused(0, "swap(4, 4)", Edges::rich, x -> x.swap(4, 4));
        refused(0, "swap(-1, -1)", Edges::rich, x -> x.swap(-1, -1));
        refused(0, "no STORE", Edges::withoutStore, x -> x.swap(0, 0));
    }

    // Promise 27: split

    private static void toSplit(KwicStore x) {
        Check.tape(x, TWENTY + ";ab;c");
        x.text(0);
        Check.word(x, "a");
        x.lay(2, 1);
        x.page(2);
    }

    static void promise27_theFirstAndTheLastPlace() {
        KwicStore x = made(LineEdges::toSplit);
        CHECK.due("split(0, 19)", x.split(0, 19), 3);
        CHECK.dueLines("split(0, 19)", x, "abcdefghijklmnopqrs;t;ab;c");
        CHECK.due("split(0, 1)", x.split(0, 1), 4);
        CHECK.dueLines("split(0, 1)", x, "a;bcdefghijklmnopqrs;t;ab;c");
        CHECK.due("of two SIGNS", x.split(3, 1), 5);
        CHECK.dueLines("split(3, 1)", x, "a;bcdefghijklmnopqrs;t;a;b;c");
        CHECK.due("numbers", Check.numbers(x), 0, 4, 3, 1, 5, 2);
    }

    static void promise27_theLastLine() {
        KwicStore x = Check.store("a;bc");
        CHECK.due("split(1, 1)", x.split(1, 1), 2);
        CHECK.dueLines("split(1, 1)", x, "a;b;c");
    }

    static void promise27_noSuchLine() {
        for (int k : new int[] {-1, 3, MIN, MAX}) {
            refused(0, "split(" + k + ", 1)", LineEdges::toSplit, x -> x.split(k, 1));
        }
        refused(0, "no STORE", Edges::withoutStore, x -> x.split(0, 1));
    }

    static void promise27_placeOutOfBounds() {
        for (int place : new int[] {-1, 0, 20, 21, MIN, MAX}) {
            refused(1, "split(0, " + place + ")", LineEdges::toSplit, x -> x.split(0, place));
        }
        refused(1, "of two SIGNS", LineEdges::toSplit, x -> x.split(1, 0));
        refused(1, "of two SIGNS", LineEdges::toSplit, x -> x.split(1, 2));
        refused(1, "of one SIGN", LineEdges::toSplit, x -> x.split(2, 0));
        refused(1, "of one SIGN", LineEdges::toSplit, x -> x.split(2, 1));
    }

    static void promise27_tenLinesAreTooMuch() {
        refused(3, "split(8, 10)", Edges::tenLines, x -> x.split(8, 10));
        refused(3, "split(9, 1)", Edges::tenLines, x -> x.split(9, 1));
        KwicStore x = made(Edges::tenLines);
        x.take(0);
        CHECK.due("at nine", x.split(8, 1), 10);
        CHECK.due("LINES", x.count(0), 10);
        CHECK.due("the tenth", x.line(9, 0), 10);
    }

    static void promise27_ofSeveralTheFirst() {
        refused(0, "no such LINE, no such place", Edges::rich, x -> x.split(4, 0));
        refused(0, "and ten LINES", Edges::tenLines, x -> x.split(10, 0));
        refused(1, "no such place, ten LINES", Edges::tenLines, x -> x.split(8, 20));
        refused(1, "no such place, ten LINES", Edges::tenLines, x -> x.split(0, 1));
        refused(0, "no STORE, no such place", Edges::withoutStore, x -> x.split(0, 0));
    }

    // Promise 28: join

    private static void toJoin(KwicStore x) {
        Check.tape(x, "ab;" + "c".repeat(18) + ";de;f;" + TWENTY);
        x.text(0);
        Check.word(x, "a");
        x.lay(2, 1);
        x.page(2);
    }

    static void promise28_upToTwentySigns() {
        KwicStore x = made(LineEdges::toJoin);
        CHECK.due("2 and 18", x.join(0), 20);
        CHECK.dueLines("join(0)", x, "ab" + "c".repeat(18) + ";de;f;" + TWENTY);
        CHECK.due("numbers", Check.numbers(x), 0, 2, 3, 4);
        CHECK.due("2 and 1", x.join(1), 3);
        CHECK.dueLines("join(1)", x, "ab" + "c".repeat(18) + ";def;" + TWENTY);
        CHECK.due("NUMBERS given", x.count(5), 5);
    }

    static void promise28_moreThanTwentySigns() {
        refused(3, "1 and 20", LineEdges::toJoin, x -> x.join(3));
        KwicStore x = made(LineEdges::toJoin);
        x.join(0);
        CHECK.due("20 and 2", x.join(0), NONE);
        CHECK.due("STATUS", Check.statuses(x), 0, 0, 0, 1);
        refused(3, "20 and 20", store(TWENTY + ";" + TWENTY), y -> y.join(0));
        refused(3, "19 and 2", store("a".repeat(19) + ";bc"), y -> y.join(0));
        CHECK.due("19 and 1", Check.store("a".repeat(19) + ";b").join(0), 20);
        CHECK.due("1 and 1", Check.store("a;b").join(0), 2);
    }

    static void promise28_noneBehindIt() {
        refused(0, "the last", LineEdges::toJoin, x -> x.join(4));
        refused(0, "the only one", LineEdges::onlyOne, x -> x.join(0));
        KwicStore x = Check.store("a;b;c");
        CHECK.due("the last but one", x.join(1), 2);
        CHECK.due("it is the last then", x.join(1), NONE);
    }

    static void promise28_noSuchLine() {
        for (int k : new int[] {-1, 5, MIN, MAX}) {
            refused(0, "join(" + k + ")", LineEdges::toJoin, x -> x.join(k));
        }
        refused(0, "no STORE", Edges::withoutStore, x -> x.join(0));
        refused(0, "no STORE", Edges::withoutStore, x -> x.join(-1));
    }

    static void promise28_ofTenLines() {
        KwicStore x = made(Edges::tenLines);
        CHECK.due("the ninth and the tenth", x.join(8), NONE);
        CHECK.due("the first two", x.join(0), 2);
        CHECK.due("LINES", x.count(0), 9);
        CHECK.due("PUT IN again", x.put(9), 10);
    }

    // Promise 30: status

    static void promise30_noSuchWhat() {
        for (int what : new int[] {-1, 4, MIN, MAX}) {
            asks("status(" + what + ")", Edges::rich, x -> x.status(what), NONE);
        }
    }

    static void promise30_noneAtFirst() {
        CHECK.due("a new object", Check.statuses(new KwicStore()), 0, 0, 0, 0);
        CHECK.due("a STORE", Check.statuses(Check.store("a")), 0, 0, 0, 0);
    }

    static void promise30_eachOneIsCounted() {
        KwicStore x = made(Edges::tenLines);
        for (int i = 1; i <= 3; i++) {
            x.take(10);
            x.lay(0, 0);
            x.swap(0, 0);
            x.put(0);
            CHECK.due("STATUS", Check.statuses(x), i, i, i, i);
        }
    }

    static void promise30_nothingIsCountedThatIsDone() {
        KwicStore x = made(Edges::tenLines);
        x.take(0);
        x.put(0);
        x.swap(0, 9);
        x.lay(0, 1);
        x.page(0);
        x.rewind(0);
        x.join(1);
        x.split(1, 1);
        Check.set(x, 0, "zz");
        CHECK.due("ACTS", x.count(3), 11);
        CHECK.due("STATUS", Check.statuses(x), 0, 0, 0, 0);
    }

    static void promise30_whatIsNoActIsNotCounted() {
        KwicStore x = made(Edges::withoutStore);
        int[] before = Check.statuses(x);
        x.text(5);
        x.text(1);
        x.word();
        x.end(9);
        x.feed(-1, -1, -1, -1, -1);
        x.hit(9, 9);
        x.would(9);
        x.ways(0, 0L);
        x.run(9, 9);
        x.perform(9);
        x.perform(0);
        x.undo();
        x.image();
        x.back();
        CHECK.due("STATUS", Check.statuses(x), before);
    }

    static void promise30_notUndone() {
        KwicStore x = Check.store("ab;c");
        x.swap(0, 1);
        x.take(2);
        x.undo();
        CHECK.due("UNDONE", Check.statuses(x), 1, 0, 0, 0);
        x.image();
        x.swap(1, 1);
        x.back();
        CHECK.due("BACK", Check.statuses(x), 1, 0, 1, 0);
        Check.tape(x, "z");
        x.text(0);
        CHECK.due("another STORE", Check.statuses(x), 1, 0, 1, 0);
    }
}
