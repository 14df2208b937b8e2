/** Edges of the whole, of ==== 1 of the terms, and of promises 1 to 5 and 35: the TAPE, FAULTS, texts, STEPS. */
final class TapeEdges extends Edges {
    private static final String[] EACH_STEP = {
        "r0:a", "i0:a", "d0", "s0,0", "c0,0:a", "p0", "w0", "b0,0", "j0",
    };
    private static final String TWELVE_STEPS = "d0;d0;d0;d0;d0;d0;d0;d0;d0;d0;d0;d0";
    private static final int[] NO_BLANKS = {1, 9, 10, 13, 31, 33, 127, 160, 255};
    private static final int FOUR_A = 0x61616161;

    // What it is

    static void whatItIs_the512thCallAnswers() {
        KwicStore x = new KwicStore();
        x.feed(0x613B6200, 0, 0, 0, 0);
        x.text(0);
        for (int call = 3; call <= 511; call++) {
            CHECK.due("call " + call, x.swap(0, 1), call % 2);
        }
        CHECK.due("call 512", x.count(4), 40);
    }

    static void whatItIs_511RefusalsAreAllCounted() {
        KwicStore x = new KwicStore();
        for (int call = 1; call <= 511; call++) {
            x.take(0);
        }
        CHECK.due("call 512", x.status(0), 511);
    }

    static void whatItIs_dearestCallsUpToThe512th() {
        KwicStore x = new KwicStore();
        Model model = new Model();
        x.feed(0x613B6200, 0, 0, 0, 0);
        x.text(0);
        model.call("feed", 0x613B6200, 0, 0, 0, 0);
        model.call("text", 0);
        for (int call = 3; call <= 511; call++) {
            CHECK.due("call " + call, x.ways(40, call), model.call("ways", 40, call));
        }
        CHECK.due("call 512", x.count(5), model.call("count", 5));
    }

    // ==== 1

    private static boolean isSign(int b) {
        return b >= 'a' && b <= 'z' || b == '_';
    }

    static void terms1_signsAreAToZAndUnderscore() {
        for (int b = 1; b <= 255; b++) {
            String one = String.valueOf((char) b);
            int want = isSign(b) ? NONE : b == ' ' ? 1 : 0;
            fault(0, one, want);
            fault(2, one, want);
            fault(3, one, want);
        }
    }

    static void terms1_whatMayStandBehindASign() {
        for (int b = 1; b <= 255; b++) {
            String two = "a" + (char) b;
            int want = isSign(b) || b == ' ' ? NONE : 1;
            fault(0, two, b == ';' ? 2 : want);
            fault(2, two, want);
            fault(3, two, want);
        }
    }

    static void terms1_stepsBeginWithNineLetters() {
        for (int b = 1; b <= 255; b++) {
            fault(1, String.valueOf((char) b), "ridscpwbj ".indexOf(b) >= 0 ? 1 : 0);
        }
    }

    static void terms1_digitsAre0To9() {
        for (int b = 1; b <= 255; b++) {
            boolean digit = b >= '0' && b <= '9';
            fault(1, "d" + (char) b, digit ? NONE : b == ' ' ? 2 : 1);
            fault(1, "s0," + (char) b, digit ? NONE : b == ' ' ? 4 : 3);
        }
    }

    static void terms1_underscoreIsLessThanA() {
        KwicStore x = Check.store("xa;x_;x");
        Check.word(x, "x");
        CHECK.due("HITS", hits(x), 2, 0, 1, 0, 0, 0);
    }

    static void terms1_storeHasOneLineAtLeast() {
        fault(0, "", 0);
        fault(0, "  ", 2);
        fault(0, "a", NONE);
    }

    static void terms1_storeHasEightLinesAtMost() {
        fault(0, EIGHT_LINES, NONE);
        fault(0, EIGHT_LINES + " ", NONE);
        fault(0, EIGHT_LINES + ";", 15);
        fault(0, EIGHT_LINES + "  ;i", 17);
        fault(0, EIGHT_LINES + ";;", 15);
    }

    static void terms1_eachLineHasOneSignAtLeast() {
        fault(0, ";", 0);
        fault(0, ";a", 0);
        fault(0, "a;", 2);
        fault(0, "a; ", 3);
        fault(0, "a;;b", 2);
        fault(0, "a; ;b", 3);
        fault(0, "a;b;c;d;e;f;g;", 14);
    }

    static void terms1_eachLineHasTwentySignsAtMost() {
        fault(0, TWENTY, NONE);
        fault(0, TWENTY + "u", 20);
        fault(0, TWENTY + ";" + TWENTY, NONE);
        fault(0, TWENTY + ";" + TWENTY + "_", 41);
        fault(0, "a;b;c;d;e;f;g;" + TWENTY, NONE);
        fault(0, "a;b;c;d;e;f;g;" + TWENTY + "u", 34);
        fault(0, TWENTY + "A", 20);
    }

    static void terms1_theLargestStore() {
        String eight = String.join(";", java.util.Collections.nCopies(8, TWENTY));
        fault(0, eight, NONE);
        fault(0, eight + ";", 167);
        fault(0, eight + "a", 167);
        KwicStore x = Check.store(eight);
        CHECK.due("LINES", x.count(0), 8);
        CHECK.due("all SIGNS", x.rule(1), 160);
        CHECK.due("the last SIGN", x.sign(7, 19), 't');
    }

    static void terms1_scriptHasOneStepAtLeast() {
        fault(1, "", 0);
        fault(1, "  ", 2);
        fault(1, ";", 0);
        fault(1, "d0;", 3);
        fault(1, "d0; ", 4);
        fault(1, "d0;;d0", 3);
        fault(1, "d0", NONE);
    }

    static void terms1_scriptHasTwelveStepsAtMost() {
        fault(1, TWELVE_STEPS, NONE);
        fault(1, TWELVE_STEPS + " ", NONE);
        fault(1, TWELVE_STEPS + ";", 35);
        fault(1, TWELVE_STEPS + " ;d0", 36);
        fault(1, TWELVE_STEPS + "d", 35);
    }

    static void terms1_setAndPutTellOneToTwentySigns() {
        for (String step : new String[] {"r0:", "i9:"}) {
            fault(1, step, 3);
            fault(1, step + " ", 4);
            fault(1, step + ";", 3);
            fault(1, step + "_", NONE);
            fault(1, step + TWENTY, NONE);
            fault(1, step + TWENTY + ";d0", NONE);
            fault(1, step + TWENTY + "u", 23);
            fault(1, step + TWENTY + " u", 24);
            fault(1, "d0;" + step + TWENTY + "u", 26);
        }
    }

    static void terms1_aLaidCursorTellsOneToSixSigns() {
        fault(1, "c0,1:", 5);
        fault(1, "c0,1:;", 5);
        fault(1, "c0,1:z", NONE);
        fault(1, "c0,1:abcdef", NONE);
        fault(1, "c0,1:abcdef;d0", NONE);
        fault(1, "c0,1:abcdefg", 11);
        fault(1, "c0,1:abcdef g", 12);
    }

    static void terms1_stepsWithoutSignsTellNone() {
        for (String step : new String[] {"d0", "p0", "w0", "j0"}) {
            fault(1, step + ":a", 2);
            fault(1, step + "a", 2);
            fault(1, step + ",1", 2);
            fault(1, step + "1", 2);
        }
        fault(1, "s0,1:a", 4);
        fault(1, "b0,1:a", 4);
        fault(1, "s0,1,2", 4);
        fault(1, "b0,12", 4);
    }

    static void terms1_stepsWithOneDigitTellNoSecond() {
        fault(1, "r0,1:a", 2);
        fault(1, "i0,1:a", 2);
        fault(1, "r01:a", 2);
    }

    static void terms1_stepsWithTwoDigitsTellBoth() {
        fault(1, "s0", 2);
        fault(1, "s0;d0", 2);
        fault(1, "b0;d0", 2);
        fault(1, "c0:a", 2);
        fault(1, "c0,1;d0", 4);
        fault(1, "s01", 2);
    }

    static void terms1_whatEndsTooEarlyIsAtFaultAtItsLength() {
        for (String step : EACH_STEP) {
            for (int n = 0; n < step.length(); n++) {
                fault(1, step.substring(0, n), n);
                fault(1, step.substring(0, n) + "   ", n + 3);
                fault(1, "d0;" + step.substring(0, n), 3 + n);
            }
            fault(1, step, NONE);
        }
    }

    static void terms1_aByteThatCantStandThereIsTheFault() {
        for (String step : EACH_STEP) {
            for (int n = 0; n < step.length(); n++) {
                fault(1, step.substring(0, n) + "?" + step.substring(n), n);
            }
            fault(1, step + "?", step.length());
        }
    }

    static void terms1_ofSeveralFaultsTheFirst() {
        fault(0, "a?;;" + TWENTY + "u", 1);
        fault(1, "d0;x;;", 3);
        fault(2, "a;?", 1);
        fault(3, "?abcdefg", 0);
    }

    static void terms1_blanksMayStandBetweenAllSigns() {
        for (String step : EACH_STEP) {
            fault(1, " " + String.join("  ", step.split("")) + " ", NONE);
        }
        fault(0, "  a  b  ;  c  ", NONE);
        fault(2, "  a  b  ", NONE);
        fault(3, "  a  b  ", NONE);
    }

    static void terms1_otherBytesAreNoBlanks() {
        for (int b : NO_BLANKS) {
            String between = "a" + (char) b + "b";
            fault(0, between, 1);
            fault(2, between, 1);
            fault(3, between, 1);
            fault(1, "d" + (char) b + "0", 1);
        }
    }

    static void terms1_blanksAreNoneOfTheSigns() {
        String wide = String.join(" ", TWENTY.split(""));
        fault(0, wide, NONE);
        fault(0, wide + " u", 40);
        fault(2, wide, NONE);
        fault(2, wide + " u", 40);
        fault(3, "a b c d e f", NONE);
        fault(3, "a b c d e f g", 12);
        fault(1, "r0:" + wide, NONE);
        fault(1, "r0:" + wide + "u", 42);
        KwicStore x = Check.store(wide + " ; a ");
        CHECK.due("SIGNS", x.line(0, 1), 20);
        CHECK.dueLines("text(0)", x, TWENTY + ";a");
        CHECK.due("a WORD with blanks", Check.word(x, " a b "), 1);
        CHECK.due("its SIGNS", x.rule(3), 2);
        CHECK.due("SET with blanks", Check.set(x, 1, " b c "), 1);
        CHECK.due("its SIGNS", x.line(1, 1), 2);
    }

    static void terms1_whatAStepTellsThatCantBeIsNoFault() {
        for (int digit = 0; digit <= 9; digit++) {
            for (String step : EACH_STEP) {
                fault(1, step.replace('0', (char) ('0' + digit)), NONE);
            }
        }
        KwicStore x = Check.store("a");
        CHECK.due("such a SCRIPT", Check.script(x, "r9:a;i9:a;d9;s9,9;c9,0:a;p9;w9;b9,0;j9"), 0);
        CHECK.due("its RUN", x.run(0, 0), 0);
    }

    // Promise 1

    static void promise1_noStore() {
        KwicStore x = new KwicStore();
        for (int what = 0; what <= 5; what++) {
            CHECK.due("count(" + what + ")", x.count(what), 0);
            CHECK.due("cursor(0, " + what + ")", x.cursor(0, what), NONE);
            CHECK.due("most(" + what + ")", x.most(what), HIDDEN);
        }
        CHECK.due("rule(0)", x.rule(0), NONE);
        CHECK.throwsNoSuchElement(x, 0, 0);
        CHECK.due("sign", x.sign(0, 0), NONE);
        CHECK.due("all", x.all(0, 0), NONE);
        CHECK.due("log", x.log(0, 0), HIDDEN);
        CHECK.due("undo", x.undo(), NONE);
        CHECK.due("back", x.back(), NONE);
        CHECK.due("image", x.image(), NONE);
        CHECK.due("step", x.step(0, 0, 0), HIDDEN);
        CHECK.due("the empty TAPE", x.fault(0), 0);
        CHECK.due("STATUS", Check.statuses(x), 0, 0, 0, 0);
    }

    static void promise1_noWordInHand() {
        KwicStore x = new KwicStore();
        CHECK.due("hit", x.hit(0, 0), NONE);
        CHECK.due("rank", x.rank(0, 0), NONE);
        CHECK.due("beside", x.beside(true, 0), NONE);
        CHECK.due("spell", x.spell(0, NONE), NONE);
        Check.tape(x, "a;a");
        x.text(0);
        CHECK.due("HITS", x.rule(2), 0);
        CHECK.due("SIGNS of the WORD", x.rule(3), 0);
        CHECK.due("hit", x.hit(0, 0), NONE);
        CHECK.due("rank", x.rank(0, 0), NONE);
        CHECK.due("beside", x.beside(true, 27), NONE);
        CHECK.due("spell", x.spell(0, NONE), NONE);
    }

    // Promise 2: feed

    static void promise2_theHighestByteComesFirst() {
        KwicStore x = new KwicStore();
        CHECK.due("feed", x.feed(0x61626364, 0x65666768, 0x696A6B6C, 0x6D6E6F70, 0x71727374), 20);
        x.text(0);
        CHECK.dueLines("feed", x, TWENTY);
    }

    static void promise2_bytesOf0AreLeftOut() {
        KwicStore x = new KwicStore();
        CHECK.due("none", x.feed(0, 0, 0, 0, 0), 0);
        CHECK.due("the highest", x.feed(0x61000000, 0, 0, 0, 0), 1);
        CHECK.due("the second", x.feed(0, 0x00620000, 0, 0, 0), 2);
        CHECK.due("the third", x.feed(0, 0, 0x00006300, 0, 0), 3);
        CHECK.due("the lowest", x.feed(0, 0, 0, 0x00000064, 0), 4);
        CHECK.due("two", x.feed(0, 0, 0, 0, 0x65000066), 6);
        x.text(0);
        CHECK.dueLines("feed", x, "abcdef");
    }

    static void promise2_bytesFrom1To255() {
        KwicStore x = new KwicStore();
        CHECK.due("255", x.feed(0xFFFFFFFF, -1, -1, -1, -1), 20);
        CHECK.due("128", x.feed(MIN, 0, 0, 0, 0), 21);
        CHECK.due("1", x.feed(1, 0, 0, 0, 0), 22);
        CHECK.due("127 and three of 255", x.feed(MAX, 0, 0, 0, 0), 26);
        CHECK.due("their FAULT", x.fault(2), 0);
    }

    private static void bytes(KwicStore x, int n) {
        Check.tape(x, "a".repeat(n));
    }

    static void promise2_240BytesAreTaken() {
        KwicStore x = made(y -> bytes(y, 220));
        CHECK.due("twenty at 220", x.feed(FOUR_A, FOUR_A, FOUR_A, FOUR_A, FOUR_A), 240);
        CHECK.due("bytes", x.count(2), 240);
        x = made(y -> bytes(y, 239));
        CHECK.due("one at 239", x.feed(0, 0, 0, 0, 0x62), 240);
        CHECK.due("none at 240", x.feed(0, 0, 0, 0, 0), 240);
    }

    static void promise2_moreThan240AreRefused() {
        asks("one at 240", x -> bytes(x, 240), x -> x.feed(0, 0, 0, 0, 0x61), NONE);
        asks("two at 239", x -> bytes(x, 239), x -> x.feed(0x61000000, 0, 0, 0, 0x61), NONE);
        asks("twenty at 221", x -> bytes(x, 221), x -> x.feed(FOUR_A, FOUR_A, FOUR_A, FOUR_A, FOUR_A), NONE);
    }

    static void promise2_theTapeTakesMoreBehindARefusal() {
        KwicStore x = made(y -> bytes(y, 239));
        x.feed(0x62620000, 0, 0, 0, 0);
        CHECK.due("one", x.feed(0x63000000, 0, 0, 0, 0), 240);
        x.end(0);
        CHECK.due("twenty", x.feed(FOUR_A, FOUR_A, FOUR_A, FOUR_A, FOUR_A), 20);
        x.text(0);
        CHECK.dueLines("feed", x, "a".repeat(20));
    }

    // Promise 3: end

    static void promise3_nFrom0ToTheTapesLength() {
        KwicStore x = made(y -> Check.tape(y, "abcd"));
        CHECK.due("end(4)", x.end(4), true);
        CHECK.due("bytes", x.count(2), 4);
        CHECK.due("end(3)", x.end(3), true);
        CHECK.due("bytes", x.count(2), 3);
        CHECK.due("end(4) then", x.end(4), false);
        CHECK.due("end(0)", x.end(0), true);
        CHECK.due("bytes", x.count(2), 0);
        CHECK.due("end(0) of none", x.end(0), true);
        CHECK.due("end(1) of none", x.end(1), false);
    }

    static void promise3_theFirstBytesAreKept() {
        KwicStore x = made(y -> Check.tape(y, "abcd"));
        x.end(2);
        x.feed(0x7A000000, 0, 0, 0, 0);
        x.text(0);
        CHECK.dueLines("end(2) and z", x, "abz");
    }

    static void promise3_aWrongNChangesNothing() {
        asks("end(-1)", Edges::rich, x -> x.end(-1) ? 1 : 0, 0);
        asks("end(4) of 3", Edges::rich, x -> x.end(4) ? 1 : 0, 0);
        asks("end(MIN)", Edges::rich, x -> x.end(MIN) ? 1 : 0, 0);
        asks("end(MAX)", Edges::rich, x -> x.end(MAX) ? 1 : 0, 0);
        asks("end(3) of 3", Edges::rich, x -> x.end(3) ? 1 : 0, 1);
    }

    static void promise3_theFullTape() {
        KwicStore x = made(y -> bytes(y, 240));
        CHECK.due("end(241)", x.end(241), false);
        CHECK.due("end(240)", x.end(240), true);
        CHECK.due("bytes", x.count(2), 240);
        CHECK.due("end(239)", x.end(239), true);
        CHECK.due("bytes", x.count(2), 239);
    }

    // Promise 4: fault

    static void promise4_sortsFrom0To3() {
        asks("fault(0)", Edges::rich, x -> x.fault(0), NONE);
        asks("fault(1)", Edges::rich, x -> x.fault(1), 0);
        asks("fault(2)", Edges::rich, x -> x.fault(2), NONE);
        asks("fault(3)", Edges::rich, x -> x.fault(3), NONE);
    }

    static void promise4_noSuchSort() {
        asks("fault(-1)", Edges::rich, x -> x.fault(-1), -2);
        asks("fault(4)", Edges::rich, x -> x.fault(4), -2);
        asks("fault(MIN)", Edges::rich, x -> x.fault(MIN), -2);
        asks("fault(MAX)", Edges::rich, x -> x.fault(MAX), -2);
        CHECK.due("of an empty TAPE", new KwicStore().fault(4), -2);
    }

    static void promise4_theEmptyTape() {
        for (int sort = 0; sort <= 3; sort++) {
            fault(sort, "", 0);
            fault(sort, " ", 1);
        }
    }

    static void promise4_theFullTape() {
        for (int sort = 0; sort <= 3; sort++) {
            fault(sort, " ".repeat(240), 240);
            fault(sort, " ".repeat(239) + "?", 239);
        }
        fault(0, " ".repeat(239) + "a", NONE);
        fault(2, "a" + " ".repeat(239), NONE);
        fault(3, "a" + " ".repeat(238) + "z", NONE);
        fault(1, ("r0:" + TWENTY + ";").repeat(10), 240);
        fault(1, ("r0:" + TWENTY + ";").repeat(9) + "d0", NONE);
    }

    static void promise4_aLineHasOneToTwentySigns() {
        fault(2, "_", NONE);
        fault(2, TWENTY, NONE);
        fault(2, TWENTY + "  ", NONE);
        fault(2, TWENTY + "u", 20);
        fault(2, TWENTY + ";", 20);
        fault(2, "a;b", 1);
    }

    static void promise4_aWordHasOneToSixSigns() {
        fault(3, "_", NONE);
        fault(3, "abcdef", NONE);
        fault(3, "abcdef  ", NONE);
        fault(3, "abcdefg", 6);
        fault(3, "abcdef;", 6);
    }

    static void promise4_alsoWhenThereAreFourScripts() {
        KwicStore x = made(TapeEdges::fourScripts);
        Check.tape(x, "d0;s1,2;x");
        CHECK.due("a FAULT", x.fault(1), 8);
        Check.tape(x, "d0;s1,2");
        CHECK.due("none", x.fault(1), NONE);
        CHECK.due("the fourth is as it was", x.step(3, 0, 1), 3);
        CHECK.due("it has one STEP", x.step(3, 1, 0), HIDDEN);
    }

    static void promise4_ofScriptsChangesNone() {
        asks("fault(1)", x -> {
            rich(x);
            Check.tape(x, "j7;s8,9;c1,1:zz;x");
        }, x -> x.fault(1), 16);
    }

    // Promise 5: text

    private static void fourScripts(KwicStore x) {
        for (int i = 0; i < 4; i++) {
            Check.script(x, "p" + i);
        }
        Check.tape(x, "j7");
    }

    static void promise5_oneToEightLines() {
        KwicStore x = made(y -> Check.tape(y, "a"));
        CHECK.due("one LINE", x.text(0), 1);
        CHECK.due("the TAPE is empty", x.count(2), 0);
        Check.tape(x, EIGHT_LINES);
        CHECK.due("eight LINES", x.text(0), 8);
        CHECK.due("the TAPE is empty", x.count(2), 0);
        CHECK.dueLines("text(0)", x, EIGHT_LINES);
        CHECK.due("numbers", Check.numbers(x), 0, 1, 2, 3, 4, 5, 6, 7);
    }

    static void promise5_aStoreWithAFaultIsRefused() {
        for (String text : new String[] {"", "a;", "ab;" + TWENTY + "u", EIGHT_LINES + ";i", "a?b"}) {
            asks("text(0) of '" + text + "'", x -> {
                rich(x);
                Check.tape(x, text);
            }, x -> x.text(0), NONE);
        }
        CHECK.due("without a STORE", made(x -> Check.tape(x, "a;")).text(0), NONE);
    }

    static void promise5_aScriptWithAFaultIsRefused() {
        for (String text : new String[] {"", "d0;", "r0:" + TWENTY + "u", TWELVE_STEPS + ";d0", "c0,1:abcdefg"}) {
            asks("text(1) of '" + text + "'", x -> {
                rich(x);
                Check.tape(x, text);
            }, x -> x.text(1), NONE);
        }
    }

    static void promise5_noSuchSort() {
        asks("text(-1)", Edges::rich, x -> x.text(-1), NONE);
        asks("text(2)", Edges::rich, x -> x.text(2), NONE);
        asks("text(3)", Edges::rich, x -> x.text(3), NONE);
        asks("text(MIN)", Edges::rich, x -> x.text(MIN), NONE);
        asks("text(MAX)", Edges::rich, x -> x.text(MAX), NONE);
    }

    static void promise5_fourScriptsAreTaken() {
        KwicStore x = new KwicStore();
        for (int i = 0; i < 4; i++) {
            Check.tape(x, "p" + i);
            CHECK.due("SCRIPT " + i, x.text(1), i);
            CHECK.due("the TAPE is empty", x.count(2), 0);
            CHECK.due("SCRIPTS", x.count(1), i + 1);
        }
        for (int i = 0; i < 4; i++) {
            CHECK.due("its digit", x.step(i, 0, 1), i);
        }
    }

    static void promise5_aFifthScriptIsRefused() {
        asks("text(1)", TapeEdges::fourScripts, x -> x.text(1), NONE);
        asks("text(1) with a FAULT", x -> {
            fourScripts(x);
            Check.tape(x, "j7;x");
        }, x -> x.text(1), NONE);
    }

    static void promise5_aStoreIsTakenWithFourScripts() {
        KwicStore x = made(TapeEdges::fourScripts);
        Check.tape(x, "a;b");
        CHECK.due("text(0)", x.text(0), 2);
        CHECK.due("SCRIPTS", x.count(1), 4);
    }

    static void promise5_aScriptOfOneAndOfTwelveSteps() {
        KwicStore x = new KwicStore();
        CHECK.due("of twelve", Check.script(x, TWELVE_STEPS), 0);
        CHECK.due("the twelfth", x.step(0, 11, 0), 2);
        CHECK.due("of one", Check.script(x, "j5"), 1);
        CHECK.due("the first", x.step(1, 0, 0), 8);
        CHECK.due("no second", x.step(1, 1, 0), HIDDEN);
    }

    static void promise5_aScriptChangesNothingOfTheStore() {
        KwicStore x = made(Edges::rich);
        KwicStore y = made(Edges::rich);
        Check.script(x, "d0");
        Check.tape(y, "");
        CHECK.due("LOG", x.count(3), y.count(3));
        CHECK.due("ACTS that can be UNDONE", x.count(4), y.count(4));
        CHECK.dueLines("text(1)", x, Check.lines(y));
        CHECK.due("HITS", hits(x), hits(y));
        CHECK.due("told", Check.told(x, 0), Check.told(y, 0));
        CHECK.due("BACK", x.back(), y.back());
    }

    private static KwicStore anew() {
        KwicStore x = made(Edges::rich);
        x.run(0, 0);
        Check.tape(x, "ab;b");
        CHECK.due("text(0)", x.text(0), 2);
        return x;
    }

    static void promise5_anotherStoreTheLinesAndNumbersAreGone() {
        KwicStore x = anew();
        CHECK.dueLines("text(0)", x, "ab;b");
        CHECK.due("numbers", Check.numbers(x), 0, 1);
        CHECK.due("NUMBERS given", x.count(5), 2);
        CHECK.due("ALL", x.all(3, 0), NONE);
        CHECK.due("the next NUMBER", Check.put(x, 0, "c"), 2);
    }

    static void promise5_anotherStoreTheWordIsGone() {
        KwicStore x = anew();
        CHECK.due("HITS", x.rule(2), 0);
        CHECK.due("SIGNS", x.rule(3), 0);
        CHECK.due("hit", x.hit(0, 0), NONE);
        CHECK.due("beside", x.beside(true, 27), NONE);
        CHECK.due("lay", x.lay(0, 1), NONE);
        CHECK.due("STATUS", Check.statuses(x), 1, 1, 0, 0);
    }

    static void promise5_anotherStoreTheCursorsAreGone() {
        KwicStore x = anew();
        CHECK.due("CURSORS", x.most(5), 0);
        CHECK.due("cursor", x.cursor(0, 0), NONE);
        CHECK.due("told", x.told(0, 0, 0), NONE);
        CHECK.due("page", x.page(0), NONE);
        Check.word(x, "b");
        x.lay(0, 3);
        CHECK.due("no MARK of the one that was", x.cursor(0, 5), 0);
        CHECK.due("LEFT", x.cursor(0, 4), 2);
        CHECK.due("all on PAGES", x.cursor(0, 3), 0);
    }

    static void promise5_anotherStoreTheLogIsGone() {
        KwicStore x = anew();
        CHECK.due("how long", x.count(3), 0);
        CHECK.due("log", x.log(0, 0), HIDDEN);
        x.swap(0, 1);
        CHECK.due("its first", Check.log(x, 0), 3, 0, 3);
        CHECK.due("no second", x.log(1, 0), HIDDEN);
    }

    static void promise5_anotherStoreNothingCanBeUndone() {
        KwicStore x = anew();
        CHECK.due("how many", x.count(4), 0);
        CHECK.due("undo", x.undo(), NONE);
        CHECK.dueLines("undo", x, "ab;b");
        x.swap(0, 1);
        CHECK.due("undo", x.undo(), 0);
        CHECK.due("undo", x.undo(), NONE);
    }

    static void promise5_anotherStoreTheImageIsGone() {
        KwicStore x = anew();
        CHECK.due("back", x.back(), NONE);
        CHECK.dueLines("back", x, "ab;b");
    }

    static void promise5_anotherStoreScriptsAndStatusStay() {
        KwicStore x = anew();
        CHECK.due("SCRIPTS", x.count(1), 1);
        CHECK.due("a STEP", x.step(0, 0, 3), 3);
        CHECK.due("its RUN: no CURSOR", x.run(0, 0), 2);
        CHECK.due("STATUS", Check.statuses(x), 1, 0, 0, 0);
    }

    // Promise 35: step

    private static void twelveSteps(KwicStore x) {
        Check.script(x, "w3");
        Check.script(x, "r0:" + TWENTY + ";i9:_;d8;s9,0;c2,0:abcdef;p2;w9;b9,0;j9;c0,9:a;b0,1;j0");
        Check.tape(x, "d0");
    }

    static void promise35_eachSortOfStep() {
        int[][] want = {
            {0, 0, HIDDEN, 20}, {1, 9, HIDDEN, 1}, {2, 8, HIDDEN, 0}, {3, 9, 0, 0}, {4, 2, 0, 6}, {5, 2, HIDDEN, 0},
            {6, 9, HIDDEN, 0}, {7, 9, 0, 0}, {8, 9, HIDDEN, 0}, {4, 0, 9, 1}, {7, 0, 1, 0}, {8, 0, HIDDEN, 0},
        };
        KwicStore x = made(TapeEdges::twelveSteps);
        for (int i = 0; i < 12; i++) {
            for (int what = 0; what <= 3; what++) {
                CHECK.due("step(1, " + i + ", " + what + ")", x.step(1, i, what), want[i][what]);
            }
        }
    }

    static void promise35_noSuchScript() {
        for (int script : new int[] {-1, 2, 3, 4, MIN, MAX}) {
            asks("step(" + script + ", 0, 0)", TapeEdges::twelveSteps, x -> x.step(script, 0, 0), HIDDEN);
        }
        CHECK.due("without any", new KwicStore().step(0, 0, 0), HIDDEN);
        KwicStore four = made(TapeEdges::fourScripts);
        CHECK.due("the fourth", four.step(3, 0, 0), 5);
        four.fault(1);
        CHECK.due("a fifth that was only looked at", four.step(4, 0, 0), HIDDEN);
    }

    static void promise35_noSuchStep() {
        for (int i : new int[] {-1, 12, MIN, MAX}) {
            asks("step(1, " + i + ", 0)", TapeEdges::twelveSteps, x -> x.step(1, i, 0), HIDDEN);
        }
        KwicStore x = made(TapeEdges::twelveSteps);
        CHECK.due("the only one", x.step(0, 0, 1), 3);
        CHECK.due("none behind it", x.step(0, 1, 1), HIDDEN);
    }

    static void promise35_noSuchWhat() {
        for (int what : new int[] {-1, 4, MIN, MAX}) {
            asks("step(1, 0, " + what + ")", TapeEdges::twelveSteps, x -> x.step(1, 0, what), HIDDEN);
        }
    }
}
