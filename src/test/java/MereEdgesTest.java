/** Promises 6 to 9, a test for each boundary that the document names: gaps, stitchers, the sky and what hangs together. */
public final class MereEdgesTest {
    private static final int NONE = SeamMere.NONE;
    private static final String EIGHT = "p8;g0,0,1,0,1;g1,1,2,5,2;g2,2,3,9,3;g3,3,4,13,4;g0,4,5,17,5;g1,5,6,21,6;g2,6,7,25,7;"
        + "g3,7,0,40,20;d0,0,1;d1,9,2;d2,17,3;d3,40,9;l24;";

    public static void main(String[] args) {
        Due.runAll(MereEdgesTest.class);
    }

    // ---- 6: gap

    private static void promise06_theFirstGapAndTheLastAreTaken() {
        SeamMere x = Due.laid(EIGHT);
        int[] first = {0, 0, 1, 0, 1, 0, 0};
        int[] last = {3, 7, 0, 40, 20, 0, 0};
        for (int what = 0; what <= 6; what++) {
            Due.is("gap 0," + what, x.gap(0, what), first[what]);
            Due.is("gap 7," + what, x.gap(7, what), last[what]);
        }
    }

    private static void promise06_whatIsNoGapIsBad() {
        for (int g : Due.outside(0, 2)) {
            for (int what : new int[] {0, 5, 6}) {
                Due.bad(Due::rich, "gap " + g + "," + what, x -> x.gap(g, what));
            }
        }
        SeamMere one = Due.laid("g0,0,1,0,1;d0,0,1;");
        SeamMere eight = Due.laid(EIGHT);
        for (int what = 0; what <= 6; what++) {
            Due.is("the second of one", one.gap(1, what), SeamMere.BAD);
            Due.is("the ninth", eight.gap(8, what), SeamMere.BAD);
        }
        Due.is("the eighth of the first mere", new SeamMere().gap(7, 0), SeamMere.BAD);
    }

    private static void promise06_whatElseThan0To6IsBad() {
        for (int what : Due.outside(0, 6)) {
            Due.bad(Due::rich, "gap 0," + what, x -> x.gap(0, what));
            Due.bad(Due::rich, "gap 2," + what, x -> x.gap(2, what));
        }
    }

    private static void promise06_stitchesFromNoneToTheWidth() {
        SeamMere x = Due.laid("g0,0,1,0,20;d2,0,1;l24;");
        Due.is("none", x.gap(0, 5), 0);
        x.send(0, 0);
        for (int h = 1; h <= 5; h++) {
            Due.is("not CLOSED", x.gap(0, 6), 0);
            x.pass(1);
            Due.is("STITCHES behind " + h, x.gap(0, 5), 4 * h);
        }
        Due.is("CLOSED", x.gap(0, 6), 1);
    }

    private static void promise06_oneStitchShortIsNotClosed() {
        SeamMere x = Due.laid("g0,0,1,0,6;g0,0,1,0,7;d1,0,1;d1,0,1;");
        x.send(0, 0);
        x.send(1, 1);
        x.pass(6);
        Due.is("six of six", x.gap(0, 5), 6);
        Due.is("CLOSED", x.gap(0, 6), 1);
        Due.is("six of seven", x.gap(1, 5), 6);
        Due.is("not CLOSED", x.gap(1, 6), 0);
    }

    private static void promise06_nothingChanges() {
        for (int what = 0; what <= 6; what++) {
            int number = what;
            Due.only(Due::rich, "gap 1," + what, x -> x.gap(1, number));
        }
    }

    // ---- 7: stitcher

    private static void promise07_theFirstStitcherAndTheLastAreTaken() {
        SeamMere x = Due.laid(EIGHT);
        int[] first = {0, 0, 1, NONE};
        int[] last = {3, 40, 9, NONE};
        for (int what = 0; what <= 3; what++) {
            Due.is("stitcher 0," + what, x.stitcher(0, what), first[what]);
            Due.is("stitcher 3," + what, x.stitcher(3, what), last[what]);
        }
    }

    private static void promise07_whatIsNoStitcherIsBad() {
        for (int d : Due.outside(0, 1)) {
            for (int what : new int[] {0, 1, 3}) {
                Due.bad(Due::rich, "stitcher " + d + "," + what, x -> x.stitcher(d, what));
            }
        }
        SeamMere one = Due.laid("g0,0,1,0,1;d0,0,1;");
        for (int what = 0; what <= 3; what++) {
            Due.is("the second of one", one.stitcher(1, what), SeamMere.BAD);
            Due.is("the fifth", Due.laid(EIGHT).stitcher(4, what), SeamMere.BAD);
        }
    }

    private static void promise07_whatElseThan0To3IsBad() {
        for (int what : Due.outside(0, 3)) {
            Due.bad(Due::rich, "stitcher 0," + what, x -> x.stitcher(0, what));
            Due.bad(Due::rich, "stitcher 1," + what, x -> x.stitcher(1, what));
        }
    }

    private static void promise07_noneIfItIsNotSent() {
        SeamMere x = Due.laid(EIGHT);
        Due.is("not yet", x.stitcher(0, 3), NONE);
        x.send(0, 7);
        Due.is("SENT to the last GAP", x.stitcher(0, 3), 7);
        Due.is("not the other one", x.stitcher(1, 3), NONE);
        x.send(0, -1);
        Due.is("called off", x.stitcher(0, 3), NONE);
        x.send(0, 0);
        Due.is("SENT to GAP 0", x.stitcher(0, 3), 0);
        x.pass(1);
        Due.is("its GAP is CLOSED", x.stitcher(0, 3), NONE);
    }

    private static void promise07_thePlaceIsWhereItIsNow() {
        SeamMere x = Due.laid(EIGHT);
        x.send(3, 0);
        x.send(0, 7);
        x.pass(4);
        Due.is("flown from 40", x.stitcher(3, 1), 4);
        Due.is("flown from 0", x.stitcher(0, 1), 4);
        Due.is("not flown", x.stitcher(2, 1), 17);
        x.pass(1);
        Due.is("at 0", x.stitcher(3, 1), 0);
        x.undo();
        Due.is("UNDONE", x.stitcher(3, 1), 4);
    }

    private static void promise07_nothingChanges() {
        for (int what = 0; what <= 3; what++) {
            int number = what;
            Due.only(Due::rich, "stitcher 1," + what, x -> x.stitcher(1, number));
        }
    }

    // ---- 8: sky

    private static void promise08_hours0To99AreTaken() {
        SeamMere x = new SeamMere();
        Due.is("this HOUR is light", x.sky(0, 0), 1);
        Due.is("this HOUR is dry", x.sky(0, 1), 0);
        Due.is("HOUR 99 is light", x.sky(99, 0), 1);
        Due.is("HOUR 99 is dry", x.sky(99, 1), 0);
        Due.is("HOUR 98 has rain", x.sky(98, 1), 1);
    }

    private static void promise08_otherHoursAreBad() {
        for (int n : Due.outside(0, 99)) {
            Due.bad(Due::rich, "light of " + n, x -> x.sky(n, 0));
            Due.bad(Due::rich, "rain of " + n, x -> x.sky(n, 1));
        }
    }

    private static void promise08_whatElseThan0And1IsBad() {
        for (int what : Due.outside(0, 1)) {
            Due.bad(Due::rich, "sky 0," + what, x -> x.sky(0, what));
            Due.bad(Due::rich, "sky 99," + what, x -> x.sky(99, what));
        }
    }

    private static void promise08_itIsLightInHourLLess1AndNotInHourL() {
        for (int l = 1; l <= 23; l++) {
            SeamMere x = Due.laid("g0,0,1,0,1;d0,0,1;l" + l + ";");
            Due.is("HOUR 0", x.sky(0, 0), 1);
            Due.is("HOUR L - 1", x.sky(l - 1, 0), 1);
            Due.is("HOUR L", x.sky(l, 0), 0);
            Due.is("HOUR 23", x.sky(23, 0), 0);
            Due.is("HOUR 24", x.sky(24, 0), 1);
            Due.is("HOUR 24 + L - 1", x.sky(23 + l, 0), 1);
            Due.is("HOUR 24 + L", x.sky(24 + l, 0), 0);
        }
    }

    private static void promise08_itIsAlwaysLightWithL24() {
        SeamMere x = Due.laid(EIGHT);
        for (int n = 0; n <= 99; n++) {
            Due.is("HOUR " + n, x.sky(n, 0), 1);
        }
    }

    private static void promise08_itIsFromNowOn() {
        SeamMere x = Due.laid("g0,0,1,0,1;d0,0,1;l5;r1;r0;r0;");
        x.pass(4);
        Due.is("HOUR 4 is light", x.sky(0, 0), 1);
        Due.is("HOUR 5 is dark", x.sky(1, 0), 0);
        Due.is("HOUR 4 is dry", x.sky(0, 1), 0);
        Due.is("HOUR 6 has rain", x.sky(2, 1), 1);
        Due.is("HOUR 23 is dark", x.sky(19, 0), 0);
        Due.is("HOUR 24 is light", x.sky(20, 0), 1);
        x.pass(24);
        Due.is("HOUR 28 is light", x.sky(0, 0), 1);
        Due.is("HOUR 29 is dark", x.sky(1, 0), 0);
        Due.is("HOUR 30 has rain", x.sky(2, 1), 1);
    }

    private static void promise08_behindTheLastRainTheFirstComesAgain() {
        SeamMere x = Due.laid("g0,0,1,0,1;d0,0,1;r1;" + "r0;".repeat(10) + "r1;");
        int[] rain = {1, 0, 0, 0, 0, 0, 0, 0, 0, 0, 0, 1};
        for (int gone = 0; gone < 4; gone++) {
            for (int n = 0; n <= 99; n++) {
                Due.is("rain in HOUR " + (5 * gone + n), x.sky(n, 1), rain[(5 * gone + n) % 12]);
            }
            x.pass(5);
        }
    }

    private static void promise08_itNeverRainsWithoutR() {
        SeamMere x = Due.laid(EIGHT);
        for (int n = 0; n <= 99; n++) {
            Due.is("HOUR " + n, x.sky(n, 1), 0);
        }
    }

    private static void promise08_nothingChanges() {
        Due.only(Due::rich, "light", x -> x.sky(99, 0));
        Due.only(Due::rich, "rain", x -> x.sky(99, 1));
    }

    // ---- 9: together

    private static void promise09_eachPieceHangsTogetherWithItself() {
        SeamMere x = Due.laid(EIGHT);
        for (int p = 0; p < 8; p++) {
            Due.is("piece " + p, x.together(p, p), 1);
        }
    }

    private static void promise09_noneElseWithoutSeams() {
        SeamMere x = Due.laid(EIGHT);
        for (int a = 0; a < 8; a++) {
            for (int b = 0; b < 8; b++) {
                Due.is(a + " and " + b, x.together(a, b), a == b ? 1 : 0);
            }
        }
    }

    private static void promise09_whatIsNoPieceIsBad() {
        for (int p : Due.outside(0, 4)) {
            Due.bad(Due::rich, "together " + p + ",0", x -> x.together(p, 0));
            Due.bad(Due::rich, "together 4," + p, x -> x.together(4, p));
            Due.bad(Due::rich, "together " + p + "," + p, x -> x.together(p, p));
        }
        SeamMere four = Due.laid("g0,0,3,0,1;d0,0,1;");
        Due.is("the last of four", four.together(3, 3), 1);
        Due.is("the fifth of four", four.together(4, 0), SeamMere.BAD);
        Due.is("and with itself", four.together(4, 4), SeamMere.BAD);
        Due.is("the ninth", Due.laid(EIGHT).together(0, 8), SeamMere.BAD);
    }

    private static void promise09_aGapOneStitchShortIsNoSeam() {
        SeamMere x = Due.laid("g0,0,1,0,3;d1,0,1;");
        x.send(0, 0);
        x.pass(2);
        Due.is("two of three", x.together(0, 1), 0);
        x.pass(1);
        Due.is("CLOSED", x.together(0, 1), 1);
        Due.is("the other way", x.together(1, 0), 1);
        x.frog(0);
        Due.is("cut", x.together(0, 1), 0);
    }

    private static void promise09_byARowOfSevenSeams() {
        SeamMere x = Due.laid("p8;g0,6,7,0,1;g0,0,1,0,1;g0,5,6,0,1;g0,2,1,0,1;g0,4,5,0,1;g0,3,2,0,1;g0,4,3,0,1;d0,0,1;l24;");
        Due.sewAll(x, 0, 1, 2, 3, 4, 5);
        Due.is("without the last", x.together(0, 7), 0);
        Due.is("one half", x.together(0, 3), 1);
        Due.is("the other half", x.together(7, 4), 1);
        Due.sewAll(x, 6);
        for (int a = 0; a < 8; a++) {
            for (int b = 0; b < 8; b++) {
                Due.is(a + " and " + b, x.together(a, b), 1);
            }
        }
    }

    private static void promise09_nothingChanges() {
        Due.only(Due::rich, "together", x -> x.together(0, 1));
        Due.only(Due::rich, "together", x -> x.together(4, 4));
    }
}
