/** Promises 1 to 5, a test for each boundary that the document names: a new object, THE TEXT, FAULT and what is LAID. */
public final class TextEdgesTest {
    private static final int BAD = SeamMere.BAD, NO = SeamMere.NO, FULL = SeamMere.FULL, NONE = SeamMere.NONE;
    private static final String FIRST = "p6;g0,0,1,3,4;g0,1,2,9,6;g1,2,3,15,3;g2,0,3,20,5;g3,3,4,26,2;g0,4,5,33,7;g0,1,4,12,5;"
        + "d0,0,3;d1,18,2;d2,30,4;d3,10,5;l14;r0;r0;r0;r1;r0;";
    private static final String GAP = "g0,0,1,0,1;", STITCHER = "d0,0,1;";

    public static void main(String[] args) {
        Due.runAll(TextEdgesTest.class);
    }

    // ---- 1: a new object

    private static void promise01_theTextIsEmpty() {
        Due.is("letters", new SeamMere().count(11), 0);
        Due.is("wipe", new SeamMere().wipe(), 0);
        Due.is("fault", new SeamMere().fault(), NONE);
        Due.is("the first letter", new SeamMere().write('p'), 1);
        Due.refused(SeamMere::new, "lay", NO, x -> x.lay());
    }

    private static void promise01_theFirstMereIsLaidAsTold() {
        SeamMere told = Due.laid(FIRST);
        told.wipe();
        Due.alike("a new object", Story.of(new SeamMere()), Story.of(told));
    }

    private static void promise01_noGapHasStitches() {
        SeamMere x = new SeamMere();
        for (int g = 0; g < 7; g++) {
            Due.is("STITCHES of " + g, x.gap(g, 5), 0);
            Due.is("CLOSED " + g, x.gap(g, 6), 0);
        }
        Due.is("STITCHES of all", x.count(5), 0);
    }

    private static void promise01_noStitcherIsSent() {
        SeamMere x = new SeamMere();
        for (int d = 0; d < 4; d++) {
            Due.is("goal of " + d, x.stitcher(d, 3), NONE);
        }
        Due.is("SENT", x.count(6), 0);
        x.pass(14);
        Due.is("nobody flies", x.stitcher(0, 1) + x.stitcher(3, 1), 10);
    }

    private static void promise01_itIsHour0() {
        SeamMere x = new SeamMere();
        Due.is("hours gone by", x.count(3), 0);
        Due.is("the last HOUR of light", x.sky(13, 0), 1);
        Due.is("the first dark one", x.sky(14, 0), 0);
        Due.is("dry", x.sky(2, 1), 0);
        Due.is("rain in HOUR 3", x.sky(3, 1), 1);
        Due.is("dry again", x.sky(4, 1), 0);
        Due.is("rain in HOUR 8", x.sky(8, 1), 1);
    }

    private static void promise01_nothingIsSeenUndoneKept() {
        SeamMere x = new SeamMere();
        Due.is("SEEN", x.count(8), 0);
        Due.is("all sets", x.seamed(0), 128);
        Due.is("can be UNDONE", x.count(9), 0);
        Due.is("KEPT", x.count(10), 0);
        Due.refused(SeamMere::new, "undo", NO, y -> y.undo());
        Due.refused(SeamMere::new, "back", NO, y -> y.back());
    }

    private static void promise01_twoObjectsShareNothing() {
        String before = Story.of(new SeamMere());
        SeamMere other = new SeamMere();
        SeamMere x = Due.full();
        x.pass(3);
        Due.alike("one made ahead", Story.of(other), before);
        Due.alike("one made behind", Story.of(new SeamMere()), before);
    }

    private static void promise01_theConstants() {
        Due.is("BAD", BAD, -1);
        Due.is("NO", NO, -2);
        Due.is("FULL", FULL, -3);
        Due.is("NONE", NONE, -4);
    }

    // ---- 2: write

    private static void promise02_letter32IsTaken31IsNot() {
        Due.is("32", new SeamMere().write(32), 1);
        Due.bad(SeamMere::new, "31", x -> x.write(31));
    }

    private static void promise02_letter126IsTaken127IsNot() {
        Due.is("126", new SeamMere().write(126), 1);
        Due.bad(SeamMere::new, "127", x -> x.write(127));
    }

    private static void promise02_allFrom32To126AreTaken() {
        SeamMere x = new SeamMere();
        for (int letter = 32; letter <= 126; letter++) {
            Due.is("letter " + letter, x.write(letter), letter - 31);
        }
    }

    private static void promise02_whatIsNoLetterIsBadAndChangesNothing() {
        for (int letter : Due.outside(32, 126)) {
            Due.bad(SeamMere::new, "letter " + letter, x -> x.write(letter));
            Due.bad(Due::rich, "letter " + letter, x -> x.write(letter));
        }
        for (int letter : new int[] {0, 1, 10, 128, 255, 256 + 'p', 65536 + 'p', 'p' - 256, -'p'}) {
            Due.bad(Due::rich, "letter " + letter, x -> x.write(letter));
        }
    }

    private static void promise02_aLetterComesBehindTheText() {
        SeamMere x = Due.written("l9;");
        Due.is("how long it is", x.write('r'), 4);
        Due.is("its ITEM is not so yet", x.fault(), 3);
        x.write('1');
        x.write(31);
        Due.is("behind a refused one", x.write(';'), 6);
        Due.is("its ITEM is so", x.fault(), NONE);
        x.write('x');
        Due.is("the next ITEM", x.fault(), 6);
    }

    private static void promise02_the200thLetterIsTakenThe201stIsFull() {
        SeamMere x = new SeamMere();
        for (int i = 1; i <= 200; i++) {
            Due.is("letter " + i, x.write(i % 3 == 1 ? 'l' : i % 3 == 2 ? '9' : ';'), i);
        }
        Due.is("the 201st", x.write(';'), FULL);
        Due.is("the 202nd", x.write(32), FULL);
        Due.is("how long it is", x.count(11), 200);
        Due.is("what was not taken is not read", x.fault(), 198);
    }

    private static void promise02_fullChangesNothing() {
        Due.is("letters", Due.full().count(11), 200);
        for (int letter : new int[] {32, 'p', ';', '9', 126}) {
            Due.refused(Due::full, "letter " + letter, FULL, x -> x.write(letter));
        }
    }

    private static void promise02_badIsAheadOfFull() {
        for (int letter : Due.outside(32, 126)) {
            Due.bad(Due::full, "letter " + letter, x -> x.write(letter));
        }
    }

    private static void promise02_onlyTheTextChanges() {
        SeamMere x = Due.rich();
        x.write('l');
        x.write('5');
        x.write(';');
        SeamMere twin = Due.rich();
        Due.is("letters", x.count(11), twin.count(11) + 3);
        Due.alike("how it stands", Story.standing(x), Story.standing(twin));
        Due.is("light", x.sky(19, 0) * 2 + x.sky(15, 0), twin.sky(19, 0) * 2 + twin.sky(15, 0));
        Due.is("SEEN", x.count(8), 2);
        Due.is("UNDONE", x.count(9), 6);
        Due.is("KEPT", x.count(10), 1);
    }

    // ---- 3: wipe

    private static void promise03_howLongItWas() {
        Due.is("none", new SeamMere().wipe(), 0);
        Due.is("one letter", Due.written("p").wipe(), 1);
        Due.is("two", Due.written("p6").wipe(), 2);
        Due.is("199", Due.written("l9;".repeat(66) + "l").wipe(), 199);
        Due.is("200, and more", Due.written("l9;".repeat(67)).wipe(), 200);
    }

    private static void promise03_theTextIsEmpty() {
        SeamMere x = Due.full();
        x.wipe();
        Due.is("letters", x.count(11), 0);
        Due.is("FAULT", x.fault(), NONE);
        Due.is("lay", x.lay(), NO);
        Due.is("wipe again", x.wipe(), 0);
        SeamMere wrong = Due.written("x");
        wrong.wipe();
        Due.is("its FAULT is gone", wrong.fault(), NONE);
    }

    private static void promise03_writingBeginsAnew() {
        SeamMere x = Due.written("l9;l");
        x.wipe();
        Due.is("the first letter", x.write('r'), 1);
        Due.is("nothing of the old one is read", x.fault(), 0);
        x.write('1');
        Due.is("the third", x.write(';'), 3);
        Due.is("FAULT", x.fault(), NONE);
    }

    private static void promise03_thereIsRoomFor200Again() {
        SeamMere x = Due.written("l9;".repeat(67));
        x.wipe();
        for (int i = 1; i <= 200; i++) {
            Due.is("letter", x.write('r'), i);
        }
        Due.is("the 201st", x.write('r'), FULL);
    }

    private static void promise03_nothingElseChanges() {
        Due.only(Due::rich, "wipe and the same text", x -> {
            x.wipe();
            Due.writeOn(x, Due.RICH);
            return 0;
        });
        Due.only(SeamMere::new, "wipe of none", x -> x.wipe());
    }

    // ---- 4: fault

    private static void fault(String text, int want) {
        Due.is("fault of " + text, Due.written(text).fault(), want);
    }

    private static void good(String... texts) {
        for (String text : texts) {
            fault(text, NONE);
            fault("l9;" + text + "x", 3 + text.length());
        }
    }

    /** ITEMS that are not so, first and behind another one. */
    private static void notSo(String... items) {
        for (String item : items) {
            fault(item, 0);
            fault(item + "l9;", 0);
            fault("r0;" + item, 3);
        }
    }

    private static void promise04_noneOfAnEmptyText() {
        fault("", NONE);
    }

    private static void promise04_noneOfATextThatCannotBeLaid() {
        fault("p8;", NONE);
        good("l9;", "r0;", GAP, STITCHER);
    }

    private static void promise04_noneOf200Letters() {
        Due.is("letters", Due.filled(FIRST).length(), 200);
        fault(Due.filled(FIRST), NONE);
    }

    private static void promise04_aNumberHasOneFigureOrTwo() {
        fault("p8;", NONE);
        fault("p08;", NONE);
        good("g0,0,1,0,1;", "g00,0,1,0,1;", "g0,00,1,0,1;", "g0,0,01,0,1;", "g0,0,1,00,1;", "g0,0,1,0,01;", "g03,03,02,40,20;",
            "d0,0,1;", "d00,0,1;", "d0,00,1;", "d0,0,01;", "l1;", "l01;", "r1;", "r01;", "r00;");
    }

    private static void promise04_aNumberOfThreeFiguresIsNotSo() {
        notSo("p008;", "p100;", "g000,0,1,0,1;", "g0,000,1,0,1;", "g0,0,001,0,1;", "g0,0,1,000,1;", "g0,0,1,0,001;", "d000,0,1;",
            "d0,000,1;", "d0,0,001;", "l001;", "l012;", "r000;", "r001;", "l0000000012;", "r4294967296;");
    }

    private static void promise04_aNumberOfNoFigureIsNotSo() {
        notSo("p;", "g;", "d;", "l;", "r;", "g,0,1,0,1;", "g0,,1,0,1;", "g0,0,,0,1;", "g0,0,1,,1;", "g0,0,1,0,;", "d,0,1;", "d0,,1;",
            "d0,0,;", "d,,;", "g,,,,;", "l,;", "r,;");
    }

    private static void promise04_otherSignsAreNoFigures() {
        for (char c = 32; c <= 126; c++) {
            if (c < '0' || c > '9' && c != ';') {
                notSo("l" + c + ";", "l1" + c + ";", "l" + c + "1;", "r" + c + ";", "g0,0,1," + c + ",1;", "d0,1" + c + ",1;");
            }
        }
    }

    private static void promise04_numbersArePartedByACommaAlone() {
        for (char c = 32; c <= 126; c++) {
            if (c != ',') {
                notSo("d0" + c + "0,1;", "d0,0" + c + "1;", "g0" + c + "0,1,0,1;", "g0,0,1,0" + c + "1;");
            }
        }
        notSo("d0,0,1,;", "g0,0,1,0,1,;", "l9,;", "r0,;", "d,0,0,1;", "d0,,0,1;");
    }

    private static void promise04_aSemicolonIsBehindTheLastNumber() {
        for (char c = 32; c <= 126; c++) {
            if (c != ';') {
                notSo("l1" + c, "r0" + c, "d0,0,1" + c, "g0,0,1,0,1" + c);
                fault("p4" + c, 0);
            }
        }
        good("l1;", "r0;", "d0,0,1;", "g0,0,1,0,1;");
        notSo(";", ";;");
        fault("l1;;", 3);
    }

    private static void promise04_anItemThatEndsTooSoonIsNotSo() {
        for (String item : new String[] {"p4;", "g3,0,1,40,20;", "d3,40,9;", "l24;", "r1;"}) {
            for (int length = 1; length < item.length(); length++) {
                fault(item.substring(0, length), 0);
                fault("p8;" + item.substring(0, length), 3);
            }
            fault("p8;" + item, NONE);
        }
    }

    private static void promise04_eachItemHasItsAmountOfNumbers() {
        fault("p4,4;", 0);
        notSo("g0,0,1,1;", "g0,0,1,1,1,1;", "g0;", "g0,0;", "g0,0,1;", "g0,0,1,1,1,1,1;", "d0,0;", "d0;", "d1,1,1,1;", "d1,1,1,1,1;",
            "l9,9;", "l1,1,1;", "r0,0;", "r1,1,1,1,1;");
    }

    private static void promise04_otherLettersBeginNoItem() {
        for (char c = 32; c <= 126; c++) {
            if ("pgdlr".indexOf(c) < 0) {
                notSo(c + "1;", c + "0,0,1;", c + "0,0,1,0,1;", c + ";", "" + c);
            }
        }
    }

    private static void promise04_piecesAre1To8() {
        fault("p0;", 0);
        fault("p1;", NONE);
        fault("p8;", NONE);
        fault("p9;", 0);
        for (int n = 10; n <= 99; n++) {
            fault("p" + n + ";", 0);
        }
    }

    private static void promise04_noOtherItemIsAheadOfPieces() {
        for (String item : new String[] {GAP, STITCHER, "l9;", "r0;"}) {
            fault(item + "p4;", item.length());
            fault("p5;" + item + "p5;", 3 + item.length());
            fault("p5;p4;" + item + "p4;", 6 + item.length());
        }
    }

    private static void promise04_ofSeveralPiecesTheLastCounts() {
        fault("p2;p8;p5;g0,0,4,0,1;", NONE);
        fault("p2;p8;p5;g0,0,5,0,1;", 9);
        fault("p8;p2;g0,0,2,0,1;", 6);
        fault("p2;p8;g0,0,7,0,1;", NONE);
        fault("p8;p9;", 3);
    }

    private static void promise04_fourPiecesWithoutP() {
        good("g0,0,3,0,1;", "g0,3,0,0,1;");
        notSo("g0,0,4,0,1;", "g0,4,0,0,1;");
    }

    private static void promise04_kindsOfGapsAre0To3() {
        for (int k = 0; k <= 99; k++) {
            fault("g" + k + ",0,1,0,1;", k <= 3 ? NONE : 0);
        }
    }

    private static void promise04_aGapIsBetweenPiecesThatAre() {
        for (int n = 2; n <= 8; n++) {
            for (int p = n - 1; p <= 12; p++) {
                fault("p" + n + ";g0,0," + p + ",0,1;", p < n ? NONE : 3);
                fault("p" + n + ";g0," + p + ",0,0,1;", p < n ? NONE : 3);
            }
            fault("p" + n + ";g0,0,99,0,1;", 3);
            fault("p" + n + ";g0," + (32 + n) + ",0,0,1;", 3);
        }
        fault("p1;g0,0,1,0,1;", 3);
    }

    private static void promise04_aGapIsBetweenUnlikePieces() {
        for (int p = 0; p < 8; p++) {
            fault("p8;g0," + p + "," + p + ",0,1;", 3);
        }
        fault("p8;g0,7,07,0,1;", 3);
        fault("p1;g0,0,0,0,1;", 3);
    }

    private static void promise04_placesOfGapsAre0To40() {
        for (int x = 0; x <= 99; x++) {
            fault("g0,0,1," + x + ",1;", x <= 40 ? NONE : 0);
        }
    }

    private static void promise04_widthsAre1To20() {
        for (int w = 0; w <= 99; w++) {
            fault("g0,0,1,0," + w + ";", w >= 1 && w <= 20 ? NONE : 0);
        }
    }

    private static void promise04_gapsAreEightAtMost() {
        fault(GAP.repeat(8), NONE);
        fault(GAP.repeat(9), 88);
        fault("l9;" + GAP.repeat(8) + "r0;" + GAP, 94);
    }

    private static void promise04_kindsOfStitchersAre0To3() {
        for (int k = 0; k <= 99; k++) {
            fault("d" + k + ",0,1;", k <= 3 ? NONE : 0);
        }
    }

    private static void promise04_placesOfStitchersAre0To40() {
        for (int x = 0; x <= 99; x++) {
            fault("d0," + x + ",1;", x <= 40 ? NONE : 0);
        }
    }

    private static void promise04_pacesAre1To9() {
        for (int p = 0; p <= 99; p++) {
            fault("d0,0," + p + ";", p >= 1 && p <= 9 ? NONE : 0);
        }
    }

    private static void promise04_stitchersAreFourAtMost() {
        fault(STITCHER.repeat(4), NONE);
        fault(STITCHER.repeat(5), 28);
        fault("l9;" + STITCHER.repeat(4) + "r0;" + STITCHER, 34);
    }

    private static void promise04_lightIs1To24Hours() {
        for (int l = 0; l <= 99; l++) {
            fault("l" + l + ";", l >= 1 && l <= 24 ? NONE : 0);
        }
    }

    private static void promise04_lightMayBeToldOften() {
        fault("l9;".repeat(66), NONE);
        fault("l24;l1;l25;", 7);
    }

    private static void promise04_rainIs0Or1() {
        for (int r = 0; r <= 99; r++) {
            fault("r" + r + ";", r <= 1 ? NONE : 0);
        }
    }

    private static void promise04_rainsAreTwelveAtMost() {
        fault("r1;".repeat(12), NONE);
        fault("r1;".repeat(13), 36);
        fault("r0;".repeat(12) + "l9;r0;", 39);
    }

    private static void promise04_itIsThePlaceOfTheItemsFirstLetter() {
        fault("l9;g0,0,1,0,21;", 3);
        fault("l9;g0,0,1,0,1;d0,0,0;r0;", 14);
        fault("l9;g0,0,1,0,1;d0,0,1;r2;", 21);
    }

    private static void promise04_ofTwoFaultsItIsTheFirst() {
        fault("r0;x;l25;", 3);
        fault("l0;r0;l0;", 0);
        fault("r0;l9;l25;r2;", 6);
    }

    private static void promise04_theLastPlaceOfAFullText() {
        fault("l24;" + "l9;".repeat(65) + "r", 199);
        fault("l9;".repeat(66) + "r0", 198);
        fault("x".repeat(200), 0);
    }

    private static void promise04_nothingChanges() {
        Due.only(Due::rich, "fault", x -> x.fault());
        Due.only(Due::full, "fault", x -> x.fault());
        SeamMere x = Due.rich();
        SeamMere twin = Due.rich();
        Due.write(x, "p8;g3,6,7,9,9;d3,3,3;l1;r1;x");
        Due.write(twin, "p8;g3,6,7,9,9;d3,3,3;l1;r1;x");
        Due.is("another mere's fault", x.fault(), 27);
        Due.alike("told behind it", Story.of(x), Story.of(twin));
    }

    // ---- 5: lay

    private static SeamMere richWith(String text) {
        SeamMere x = Due.rich();
        Due.write(x, text);
        return x;
    }

    private static void notLaid(String text) {
        Due.refused(() -> richWith(text), "lay of " + text, NO, x -> x.lay());
    }

    private static void promise05_noOfAnEmptyText() {
        notLaid("");
    }

    private static void promise05_noOfATextWithAFault() {
        notLaid(GAP + STITCHER + "x");
        notLaid("x" + GAP + STITCHER);
        notLaid(GAP + STITCHER + "l9");
        notLaid("p3;" + GAP + STITCHER + "r2;r1;");
        notLaid(GAP.repeat(9) + STITCHER);
        notLaid(GAP + STITCHER.repeat(5));
    }

    private static void promise05_noWithoutAGap() {
        notLaid(STITCHER);
        notLaid("p8;" + STITCHER.repeat(4) + "l9;r1;");
    }

    private static void promise05_noWithoutAStitcher() {
        notLaid(GAP);
        notLaid("p8;" + GAP.repeat(8) + "l9;r1;");
    }

    private static void promise05_noWithoutBoth() {
        notLaid("p8;l9;r1;");
        notLaid("l9;");
    }

    private static void promise05_oneGapAndOneStitcherAreEnough() {
        Due.is("GAPS", Due.written(GAP + STITCHER).lay(), 1);
        Due.is("the STITCHER ahead", Due.written(STITCHER + GAP).lay(), 1);
    }

    private static void promise05_eightGapsAndFourStitchersAreLaid() {
        SeamMere x = Due.written("p8;" + "g3,6,7,40,20;".repeat(8) + "d3,40,9;".repeat(4));
        Due.is("GAPS", x.lay(), 8);
        Due.is("STITCHERS", x.count(2), 4);
        Due.is("the last GAP", x.gap(7, 4), 20);
        Due.is("the last STITCHER", x.stitcher(3, 1), 40);
        Due.is("seven", Due.written(GAP.repeat(7) + STITCHER).lay(), 7);
    }

    private static void promise05_aFullTextIsLaid() {
        SeamMere x = Due.written(Due.filled(FIRST.replace("l14;", "")));
        Due.is("GAPS", x.lay(), 7);
        Due.is("the last l", x.sky(8, 0) * 2 + x.sky(9, 0), 2);
    }

    private static void promise05_gapsAndStitchersAreCountedFrom0AsTold() {
        SeamMere x = Due.laid("p3;d2,7,4;g1,2,0,5,6;l9;d3,8,9;g2,1,2,3,4;");
        int[][] gaps = {{1, 2, 0, 5, 6}, {2, 1, 2, 3, 4}};
        int[][] stitchers = {{2, 7, 4}, {3, 8, 9}};
        for (int i = 0; i < 2; i++) {
            for (int what = 0; what < 5; what++) {
                Due.is("gap " + i + "," + what, x.gap(i, what), gaps[i][what]);
            }
            for (int what = 0; what < 3; what++) {
                Due.is("stitcher " + i + "," + what, x.stitcher(i, what), stitchers[i][what]);
            }
        }
    }

    private static void promise05_fourPiecesWithoutP() {
        Due.is("PIECES", Due.laid(GAP + STITCHER).count(0), 4);
        Due.is("PIECES of p2", Due.laid("p2;" + GAP + STITCHER).count(0), 2);
        Due.is("PIECES of p8", Due.laid("p8;" + GAP + STITCHER).count(0), 8);
        SeamMere x = Due.laid("p8;" + GAP + STITCHER);
        Due.write(x, GAP + STITCHER);
        x.lay();
        Due.is("PIECES behind p8", x.count(0), 4);
    }

    private static void promise05_ofSeveralPiecesTheLastCounts() {
        Due.is("the last is fewer", Due.laid("p8;p2;" + GAP + STITCHER).count(0), 2);
        Due.is("the last is more", Due.laid("p2;p3;p8;" + GAP + STITCHER).count(0), 8);
    }

    private static void promise05_twelveHoursAreLightWithoutL() {
        SeamMere x = Due.laid("l24;" + GAP + STITCHER);
        Due.write(x, GAP + STITCHER);
        x.lay();
        Due.is("HOUR 11", x.sky(11, 0), 1);
        Due.is("HOUR 12", x.sky(12, 0), 0);
    }

    private static void promise05_ofSeveralLightsTheLastCounts() {
        SeamMere x = Due.laid("l24;l1;" + GAP + STITCHER + "l3;");
        Due.is("HOUR 2", x.sky(2, 0), 1);
        Due.is("HOUR 3", x.sky(3, 0), 0);
    }

    private static void promise05_itNeverRainsWithoutR() {
        SeamMere x = Due.laid("r1;" + GAP + STITCHER);
        Due.write(x, GAP + STITCHER);
        x.lay();
        for (int n = 0; n < 100; n++) {
            Due.is("rain in HOUR " + n, x.sky(n, 1), 0);
        }
    }

    private static void promise05_rainsFollowOneAnotherAndBeginAgain() {
        SeamMere one = Due.laid("r1;" + GAP + STITCHER);
        SeamMere two = Due.laid("r0;" + GAP + "r1;" + STITCHER);
        SeamMere twelve = Due.laid(GAP + STITCHER + "r1;" + "r0;".repeat(10) + "r1;");
        for (int n = 0; n < 100; n++) {
            Due.is("one, HOUR " + n, one.sky(n, 1), 1);
            Due.is("two, HOUR " + n, two.sky(n, 1), n % 2);
            Due.is("twelve, HOUR " + n, twelve.sky(n, 1), n % 12 == 0 || n % 12 == 11 ? 1 : 0);
        }
    }

    private static void promise05_allBeginsAnew() {
        for (Due.Maker maker : new Due.Maker[] {Due::rich, Due::full}) {
            SeamMere x = maker.make();
            Due.write(x, Due.RICH);
            Due.is("lay", x.lay(), 3);
            Due.is("HOUR", x.count(3), 0);
            Due.is("SEEN", x.count(8), 0);
            Due.is("UNDONE", x.count(9), 0);
            Due.is("KEPT", x.count(10), 0);
            Due.alike("as on a new object", Story.now(x), Story.now(Due.laid(Due.RICH)));
            Due.is("undo", x.undo(), NO);
            Due.is("back", x.back(), NO);
            Due.is("forget", x.forget(), 0);
        }
    }

    private static void promise05_stitchersAreWhereTheyAreTold() {
        SeamMere x = Due.rich();
        Due.is("flown", x.stitcher(1, 1), 5);
        x.lay();
        Due.is("the place that was told", x.stitcher(1, 1), 9);
        Due.is("SENT to none", x.stitcher(0, 3), NONE);
        Due.is("nor the other", x.stitcher(1, 3), NONE);
        Due.is("STITCHES", x.count(5), 0);
    }

    private static void promise05_theTextStays() {
        SeamMere x = Due.written(GAP + STITCHER);
        x.lay();
        Due.is("letters", x.count(11), 18);
        Due.is("laid again", x.lay(), 1);
        Due.is("laid once more", x.lay(), 1);
        Due.writeOn(x, GAP);
        Due.is("written on", x.lay(), 2);
        SeamMere full = Due.full();
        full.lay();
        Due.is("200 letters", full.count(11), 200);
        Due.is("still full", full.write('l'), FULL);
    }

    private static void promise05_nothingOfAnEarlierMereStays() {
        SeamMere x = Due.laid("p8;" + "g3,6,7,40,20;".repeat(8) + "d3,40,9;".repeat(4) + "l24;" + "r1;".repeat(12));
        Due.write(x, "g0,0,1,2,3;d1,4,5;");
        Due.is("lay", x.lay(), 1);
        Due.alike("as on a new object", Story.of(x), Story.of(Due.laid("g0,0,1,2,3;d1,4,5;")));
    }

    private static void promise05_aRefusedTextIsNotLaidByHalves() {
        SeamMere x = Due.laid(GAP + STITCHER);
        Due.write(x, "p8;g3,6,7,40,20;g3,6,7,40,20;d3,40,9;d3,40,9;l24;r1;x");
        Due.is("lay", x.lay(), NO);
        Due.is("PIECES", x.count(0), 4);
        Due.is("GAPS", x.count(1), 1);
        Due.is("STITCHERS", x.count(2), 1);
        Due.is("light", x.sky(12, 0), 0);
        Due.is("rain", x.sky(0, 1), 0);
        Due.is("its GAP", x.gap(0, 4), 1);
        Due.is("its STITCHER", x.stitcher(0, 0), 0);
    }
}
