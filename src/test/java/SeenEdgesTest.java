/** Promises 21 to 24, a test for each boundary that the document names: SEEN, SEAMED and TELLS. */
public final class SeenEdgesTest {
    private static final int NONE = SeamMere.NONE, BAD = SeamMere.BAD, FULL = SeamMere.FULL;
    private static final String ENDS = "d0,0,1;l24;";
    private static final String PATH8 = "p8;g0,0,1,0,2;g0,1,2,0,2;g0,2,3,0,2;g0,3,4,0,2;g0,4,5,0,2;g0,5,6,0,2;g0,6,7,0,2;";

    public static void main(String[] args) {
        Due.runAll(SeenEdgesTest.class);
    }

    /** A row of three pieces, 0 to 1 by gap 0, 1 to 2 by gap 1. */
    private static SeamMere three() {
        return Due.laid("p3;g0,0,1,0,2;g0,1,2,0,2;" + ENDS);
    }

    // ---- 21: see

    private static void promise21_theAnswerIsHowMany() {
        SeamMere x = new SeamMere();
        for (int i = 1; i <= 8; i++) {
            Due.is("see", x.see(0, 5, 1), i);
            Due.is("SEEN", x.count(8), i);
        }
    }

    private static void promise21_theEighthIsTakenTheNinthIsFull() {
        SeamMere x = three();
        for (int i = 1; i <= 7; i++) {
            x.see(0, 1, 1);
        }
        Due.is("the eighth", x.see(1, 2, 0), 8);
        Due.is("it counts", x.seamed(1), 1);
        Due.is("the ninth", x.see(1, 2, 1), FULL);
        Due.is("the tenth", x.see(0, 2, 1), FULL);
        Due.is("neither counts", x.seamed(0), 1);
        Due.is("SEEN", x.count(8), 8);
    }

    private static void promise21_fullChangesNothing() {
        for (int is = 0; is <= 1; is++) {
            int hung = is;
            Due.refused(Due::full, "see 0,1," + is, FULL, x -> x.see(0, 1, hung));
            Due.refused(Due::full, "see 3,4," + is, FULL, x -> x.see(3, 4, hung));
        }
    }

    private static void promise21_alikeIsBad() {
        for (int p = 0; p < 5; p++) {
            int piece = p;
            Due.bad(Due::rich, "see " + p + "," + p + ",0", x -> x.see(piece, piece, 0));
            Due.bad(Due::rich, "see " + p + "," + p + ",1", x -> x.see(piece, piece, 1));
        }
    }

    private static void promise21_whatIsNoPieceIsBad() {
        for (int p : Due.outside(0, 4)) {
            Due.bad(Due::rich, "see " + p + ",0,1", x -> x.see(p, 0, 1));
            Due.bad(Due::rich, "see 0," + p + ",1", x -> x.see(0, p, 1));
            Due.bad(Due::rich, "see 4," + p + ",0", x -> x.see(4, p, 0));
        }
        Due.is("the fourth of four", Due.laid("g0,0,1,0,2;" + ENDS).see(3, 0, 0), 1);
        Due.is("the fifth of four", Due.laid("g0,0,1,0,2;" + ENDS).see(4, 0, 0), BAD);
        Due.is("the eighth of eight", Due.laid(PATH8 + ENDS).see(7, 0, 0), 1);
        Due.is("the ninth of eight", Due.laid(PATH8 + ENDS).see(0, 8, 0), BAD);
    }

    private static void promise21_elseThan0And1IsBad() {
        for (int is : Due.outside(0, 1)) {
            Due.bad(Due::rich, "see 0,2," + is, x -> x.see(0, 2, is));
        }
        Due.is("0", Due.rich().see(0, 2, 0), 3);
        Due.is("1", Due.rich().see(0, 2, 1), 3);
    }

    private static void promise21_badIsAheadOfFull() {
        Due.bad(Due::full, "alike", x -> x.see(2, 2, 1));
        Due.bad(Due::full, "no PIECE", x -> x.see(0, 5, 1));
        Due.bad(Due::full, "no PIECE ahead", x -> x.see(-1, 0, 1));
        Due.bad(Due::full, "neither 0 nor 1", x -> x.see(0, 1, 2));
    }

    private static void promise21_theOrderOfAPairIsOfNoMatter() {
        SeamMere x = three();
        x.see(2, 0, 1);
        SeamMere twin = three();
        twin.see(0, 2, 1);
        Due.alike("2,0 and 0,2", Story.of(x), Story.of(twin));
    }

    private static void promise21_whatIsSeenNeedNotBeSo() {
        SeamMere x = three();
        Due.is("HANGING TOGETHER though it does not", x.see(0, 1, 1), 1);
        Due.is("nothing is sewn by it", x.together(0, 1), 0);
        Due.is("and not, too", x.see(1, 0, 0), 2);
        Due.is("no such set", x.seamed(0), 0);
    }

    private static void promise21_onlyWhatIsSeenChanges() {
        SeamMere x = Due.rich();
        SeamMere twin = Due.rich();
        x.see(0, 2, 1);
        Due.is("UNDONE", x.count(9), 6);
        Due.alike("how it stands", Story.standing(x), Story.standing(twin));
        x.forget();
        twin.forget();
        Due.alike("all else", Story.of(x), Story.of(twin));
    }

    // ---- 22: forget

    private static void promise22_theAnswerIsHowManyWere() {
        for (int n = 0; n <= 8; n++) {
            SeamMere x = new SeamMere();
            for (int i = 0; i < n; i++) {
                x.see(i % 5, 5, 1);
            }
            Due.is("forget " + n, x.forget(), n);
            Due.is("SEEN", x.count(8), 0);
            Due.is("forget none", x.forget(), 0);
        }
    }

    private static void promise22_nothingIsSeen() {
        SeamMere x = three();
        Due.tell("ahead", x, 4, 0, 1, 2);
        x.see(0, 1, 1);
        x.see(1, 2, 0);
        x.forget();
        Due.tell("behind", x, 4, 0, 1, 2);
    }

    private static void promise22_eightCanBeSeenAgain() {
        SeamMere x = Due.full();
        x.forget();
        for (int i = 1; i <= 8; i++) {
            Due.is("see", x.see(0, 1, 1), i);
        }
        Due.is("the ninth", x.see(0, 1, 1), FULL);
    }

    private static void promise22_nothingElseChanges() {
        Due.only(SeamMere::new, "forget of none", x -> x.forget());
        Due.only(Due::rich, "forget, and all seen again", x -> {
            x.forget();
            x.see(0, 1, 1);
            return x.see(3, 4, 0);
        });
    }

    // ---- 23: seamed

    private static void promise23_allSetsIfNothingIsSeen() {
        for (int gaps = 1; gaps <= 8; gaps++) {
            SeamMere x = Due.laid("g0,0,1,0,2;".repeat(gaps) + ENDS);
            Due.is(gaps + " GAPS", x.seamed(0), 1 << gaps);
            Due.is("the lowest is none of them", x.seamed(1), 0);
        }
    }

    private static void promise23_howeverTheyAreNow() {
        SeamMere x = three();
        x.see(0, 2, 0);
        Due.tell("none CLOSED", x, 3, 0, 1, 2);
        Due.sewAll(x, 0, 1);
        Due.tell("both CLOSED", x, 3, 0, 1, 2);
    }

    private static void promise23_noSuchSet() {
        SeamMere x = three();
        x.see(0, 1, 1);
        x.see(0, 1, 0);
        Due.is("how many", x.seamed(0), 0);
        Due.is("the lowest", x.seamed(1), NONE);
        SeamMere apart = Due.laid("p4;g0,0,1,0,2;" + ENDS);
        apart.see(2, 3, 1);
        Due.is("no GAP between them", apart.seamed(0), 0);
        Due.is("nor a lowest", apart.seamed(1), NONE);
    }

    private static void promise23_itIsAskedAnew() {
        SeamMere x = three();
        Due.is("nothing SEEN", x.seamed(1), 0);
        x.see(0, 2, 1);
        Due.is("both", x.seamed(1), 3);
        x.see(0, 1, 0);
        Due.is("no such set", x.seamed(1), NONE);
        Due.is("how many", x.seamed(0), 0);
        x.forget();
        Due.is("forgotten", x.seamed(1), 0);
        x.see(1, 2, 1);
        Due.is("GAP 1", x.seamed(1), 2);
    }

    private static void promise23_oneSetAlone() {
        SeamMere none = Due.laid("p2;" + "g0,0,1,0,2;".repeat(8) + ENDS);
        none.see(0, 1, 0);
        Due.is("none of eight", none.seamed(0), 1);
        Due.is("is 0", none.seamed(1), 0);
        none.forget();
        none.see(0, 1, 1);
        Due.is("any of eight", none.seamed(0), 255);
        Due.is("the lowest is GAP 0", none.seamed(1), 1);
        SeamMere all = Due.laid(PATH8 + "g0,0,7,0,2;" + ENDS);
        for (int p = 0; p < 7; p++) {
            all.see(p, p + 1, 1);
        }
        Due.is("seven or eight of eight", all.seamed(0), 9);
        Due.is("the lowest is the first seven", all.seamed(1), 127);
    }

    private static void promise23_theLowestAsBits() {
        SeamMere x = Due.laid("p4;g0,0,1,0,2;g0,1,2,0,2;g0,2,3,0,2;g0,0,3,0,2;" + ENDS);
        x.see(0, 3, 1);
        Due.is("three low ones ahead of a high one", x.seamed(1), 7);
        x.see(1, 2, 0);
        Due.is("the high one", x.seamed(1), 8);
        x.see(0, 1, 1);
        Due.is("the high one and a low one", x.seamed(1), 9);
        Due.is("and no other set", x.seamed(0), 1);
    }

    private static void promise23_allThatIsSeenMustBeSo() {
        SeamMere x = Due.laid(PATH8 + ENDS);
        int[] due = {64, 32, 16, 8, 4, 2, 1, 1};
        for (int i = 0; i < 8; i++) {
            x.see(i % 7, i % 7 + 1, i % 7 % 2);
            Due.is("seen " + i, x.seamed(0), due[i]);
        }
        Due.is("GAPS 1, 3 and 5", x.seamed(1), 42);
    }

    private static void promise23_whatElseThan0And1IsBad() {
        for (int what : Due.outside(0, 1)) {
            Due.bad(Due::rich, "seamed " + what, x -> x.seamed(what));
            Due.bad(SeenEdgesTest::impossible, "BAD is ahead of NONE, seamed " + what, x -> x.seamed(what));
        }
    }

    private static SeamMere impossible() {
        SeamMere x = Due.rich();
        x.see(1, 0, 0);
        return x;
    }

    private static void promise23_nothingChanges() {
        Due.only(Due::rich, "seamed", x -> x.seamed(0) + x.seamed(1));
        Due.only(SeenEdgesTest::impossible, "seamed", x -> x.seamed(0) + x.seamed(1));
    }

    // ---- 24: tells

    private static void tells(String what, SeamMere x, int pair, int part) {
        Due.is(what + ": which", x.tells(0), pair);
        Due.is(what + ": how many", x.tells(1), part);
    }

    private static void promise24_noneIfThereIsNoSuchSet() {
        SeamMere x = impossible();
        Due.is("sets", x.seamed(0), 0);
        tells("no set", x, NONE, NONE);
    }

    private static void promise24_noneIfAllPairsAreSeen() {
        SeamMere two = Due.laid("p2;g0,0,1,0,2;" + ENDS);
        tells("the only pair", two, 1, 1);
        two.see(1, 0, 1);
        tells("it is SEEN", two, NONE, NONE);
        two.forget();
        two.see(0, 1, 0);
        tells("SEEN as not", two, NONE, NONE);
        two.forget();
        tells("forgotten", two, 1, 1);
        SeamMere four = Due.laid("g0,0,1,0,2;" + ENDS);
        int[][] pairs = {{0, 1}, {2, 0}, {0, 3}, {2, 1}, {3, 1}};
        for (int[] pair : pairs) {
            four.see(pair[0], pair[1], pair[0] + pair[1] == 1 ? 1 : 0);
        }
        tells("one pair is left", four, 23, 1);
        four.see(3, 2, 0);
        tells("none is left", four, NONE, NONE);
    }

    private static void promise24_fewestInTheGreaterPart() {
        SeamMere x = Due.laid("p3;g0,0,1,0,2;g0,0,1,0,2;g0,1,2,0,2;" + ENDS);
        tells("6 and 2, 4 and 4, 3 and 5", x, 12, 4);
        x.see(1, 2, 1);
        tells("3 and 1, 3 and 1", x, 1, 3);
        SeamMere most = Due.laid("p2;" + "g0,0,1,0,2;".repeat(8) + ENDS);
        tells("255 and 1", most, 1, 255);
    }

    private static void promise24_theGreaterPartMayBeEither() {
        SeamMere together = Due.laid("p2;g0,0,1,0,2;g0,0,1,0,2;" + ENDS);
        tells("3 HANG TOGETHER, 1 does not", together, 1, 3);
        SeamMere apart = Due.laid("p3;g0,0,1,0,2;g0,1,2,0,2;" + ENDS);
        apart.see(0, 1, 0);
        apart.see(1, 2, 0);
        tells("0 HANG TOGETHER, 1 does not", apart, 2, 1);
        SeamMere row = Due.laid("p4;g0,0,1,0,2;g0,1,2,0,2;g0,2,3,0,2;" + ENDS);
        row.see(0, 1, 0);
        row.see(1, 3, 0);
        tells("1 HANGS TOGETHER, 2 do not", row, 12, 2);
    }

    private static void promise24_ofSeveralTheFirst() {
        tells("by the lower PIECE", Due.laid("p5;g0,3,4,0,2;g0,1,4,0,2;" + ENDS), 14, 2);
        tells("then by the other one", Due.laid("p5;g0,1,4,0,2;g0,1,3,0,2;" + ENDS), 13, 2);
        tells("told the other way", Due.laid("p5;g0,4,1,0,2;g0,3,1,0,2;" + ENDS), 13, 2);
        SeamMere x = Due.laid(PATH8 + ENDS);
        for (int p = 0; p < 6; p++) {
            tells("from " + p, x, 10 * p + p + 1, 1 << (6 - p));
            x.see(p + 1, p, 0);
        }
    }

    private static void promise24_theLastPairOfEightPieces() {
        SeamMere x = Due.laid("p8;g0,6,7,0,2;" + ENDS);
        tells("6 and 7", x, 67, 1);
        SeamMere y = Due.laid("p8;g0,7,0,0,2;" + ENDS);
        tells("0 and 7", y, 7, 1);
        SeamMere z = Due.laid("p8;g0,2,7,0,2;g0,2,7,0,2;g0,5,3,0,2;" + ENDS);
        tells("3 and 5", z, 35, 4);
        z.see(3, 5, 1);
        tells("2 and 7", z, 27, 3);
    }

    private static void promise24_aPairThatIsSeenTellsNoMore() {
        SeamMere x = three();
        x.see(1, 0, 1);
        tells("0 and 1 are SEEN", x, 2, 1);
        x.see(2, 0, 0);
        tells("0 and 2, too", x, 12, 1);
        SeamMere fresh = three();
        fresh.see(0, 2, 0);
        tells("0 and 2 alone", fresh, 1, 2);
    }

    private static void promise24_pairsThatTellNothing() {
        SeamMere x = Due.laid("p8;g0,6,7,0,2;" + ENDS);
        x.see(6, 7, 1);
        tells("all are apart for certain", x, 1, 1);
        x.see(1, 0, 0);
        tells("the next one", x, 2, 1);
    }

    private static void promise24_itIsAskedAnew() {
        SeamMere x = three();
        tells("nothing SEEN", x, 1, 2);
        x.see(0, 1, 1);
        tells("0 and 1", x, 2, 1);
        x.see(0, 1, 0);
        tells("no such set", x, NONE, NONE);
        x.forget();
        tells("forgotten", x, 1, 2);
        Due.write(x, "p4;g0,2,3,0,2;" + ENDS);
        x.lay();
        tells("another mere", x, 23, 1);
    }

    private static void promise24_whatElseThan0And1IsBad() {
        for (int what : Due.outside(0, 1)) {
            Due.bad(Due::rich, "tells " + what, x -> x.tells(what));
            Due.bad(SeenEdgesTest::impossible, "BAD is ahead of NONE, tells " + what, x -> x.tells(what));
        }
    }

    private static void promise24_nothingChanges() {
        Due.only(Due::rich, "tells", x -> x.tells(0) + x.tells(1));
        Due.only(SeenEdgesTest::impossible, "tells", x -> x.tells(0) + x.tells(1));
    }
}
