/** Promises 25 to 29, a test for each boundary that the document names: SHOWERS, SUMMERS, what is KEPT, and counts. */
public final class SummerEdgesTest {
    private static final int BAD = SeamMere.BAD, FULL = SeamMere.FULL, NO = SeamMere.NO;
    private static final String ONE = "g0,0,1,0,2;d0,0,1;l24;";

    public static void main(String[] args) {
        Due.runAll(SummerEdgesTest.class);
    }

    // ---- 25: showers

    private static SeamMere sewing(String text) {
        SeamMere x = Due.laid(text);
        x.send(0, 0);
        return x;
    }

    private static void promise25_noHour() {
        for (int x = 0; x <= 10; x++) {
            Due.chance("CLOSED now", Due.rich(), 0, 0, x, 1, 1);
            Due.chance("not CLOSED now", Due.rich(), 1, 0, x, 0, 1);
        }
    }

    private static void promise25_0To8HoursAreTaken() {
        for (int n = 0; n <= 8; n++) {
            SeamMere x = sewing("g0,0,1,0," + 2 * Math.max(1, n) + ";g0,0,1,0,20;d0,0,1;l24;");
            Due.chance(n + " dry HOURS", x, 0, n, 0, n == 0 ? 0 : 1, 1);
            Due.chance("another GAP", x, 1, n, 0, 0, 1);
        }
        Due.chance("7 are too few for 16", sewing("g0,0,1,0,16;d0,0,1;l24;"), 0, 7, 0, 0, 1);
        Due.chance("8 are enough for 16", sewing("g0,0,1,0,16;d0,0,1;l24;"), 0, 8, 0, 1, 1);
        Due.chance("8 are too few for 17", sewing("g0,0,1,0,17;d0,0,1;l24;"), 0, 8, 0, 0, 1);
    }

    private static void promise25_otherHoursAreBad() {
        for (int n : Due.outside(0, 8)) {
            for (int part = 0; part <= 1; part++) {
                int half = part;
                Due.bad(Due::rich, "showers 1," + n + ",5," + part, x -> x.showers(1, n, 5, half));
                Due.bad(Due::rich, "showers 1," + n + ",0," + part, x -> x.showers(1, n, 0, half));
            }
        }
    }

    private static void promise25_0To10OfTenAreTaken() {
        // CLOSED behind 2 HOURS if the first one is dry.
        int[][] due = {{1, 1}, {9, 10}, {4, 5}, {7, 10}, {3, 5}, {1, 2}, {2, 5}, {3, 10}, {1, 5}, {1, 10}, {0, 1}};
        for (int x = 0; x <= 10; x++) {
            Due.chance(x + " of ten", sewing("g0,0,1,0,4;d0,0,1;l24;"), 0, 2, x, due[x][0], due[x][1]);
        }
    }

    private static void promise25_otherChancesAreBad() {
        for (int ten : Due.outside(0, 10)) {
            for (int part = 0; part <= 1; part++) {
                int half = part;
                Due.bad(Due::rich, "showers 1,3," + ten + "," + part, x -> x.showers(1, 3, ten, half));
                Due.bad(Due::rich, "showers 1,0," + ten + "," + part, x -> x.showers(1, 0, ten, half));
            }
        }
    }

    private static void promise25_whatIsNoGapIsBad() {
        for (int g : Due.outside(0, 2)) {
            Due.bad(Due::rich, "showers " + g + ",3,4,0", x -> x.showers(g, 3, 4, 0));
            Due.bad(Due::rich, "showers " + g + ",3,4,1", x -> x.showers(g, 3, 4, 1));
        }
        Due.is("the seventh of seven", new SeamMere().showers(6, 1, 1, 1), 1);
        Due.is("the eighth of seven", new SeamMere().showers(7, 1, 1, 1), BAD);
    }

    private static void promise25_elseThanAboveAndBelowIsBad() {
        for (int part : Due.outside(0, 1)) {
            Due.bad(Due::rich, "showers 1,3,4," + part, x -> x.showers(1, 3, 4, part));
        }
    }

    private static void promise25_whateverWasTold() {
        SeamMere wet = sewing("g0,0,1,0,4;d0,0,1;l24;r1;");
        Due.chance("told wet, dry", wet, 0, 2, 0, 1, 1);
        Due.chance("told wet, by chance", wet, 0, 2, 3, 7, 10);
        SeamMere dry = sewing("g0,0,1,0,4;d0,0,1;l24;r0;");
        Due.chance("told dry, wet", dry, 0, 2, 10, 0, 1);
        Due.chance("told dry, wet at last", dry, 0, 3, 10, 1, 1);
    }

    private static void promise25_eachHourForItself() {
        // 5 STITCHES behind 3 HOURS if not both of the first two are wet: 1 - 0.3 * 0.3.
        SeamMere x = sewing("g0,0,1,0,5;d0,0,1;l24;");
        Due.chance("not both wet", x, 0, 3, 3, 91, 100);
        Due.chance("behind 2", x, 0, 2, 3, 0, 1);
        Due.chance("behind 4", x, 0, 4, 10, 1, 1);
        SeamMere six = sewing("g0,0,1,0,6;d0,0,1;l24;");
        Due.chance("both dry", six, 0, 3, 3, 49, 100);
        Due.chance("two of three dry, or the first two", six, 0, 4, 3, 973, 1000);
    }

    private static void promise25_inLowestTerms() {
        SeamMere x = sewing("g0,0,1,0,16;d0,0,1;l24;");
        Due.chance("seven dry HOURS by 9 of ten", x, 0, 8, 1, 4782969, 10000000);
        Due.chance("by 8 of ten", x, 0, 8, 2, 16384, 78125);
        Due.chance("by 5 of ten", x, 0, 8, 5, 1, 128);
        Due.chance("by 1 of ten", x, 0, 8, 9, 1, 10000000);
        Due.chance("never", x, 0, 8, 10, 0, 1);
        Due.chance("for certain", x, 0, 8, 0, 1, 1);
    }

    private static void promise25_whatIsClosedStaysSo() {
        SeamMere x = Due.rich();
        Due.chance("8 wet HOURS", x, 0, 8, 10, 1, 1);
        Due.chance("8 of any", x, 0, 8, 7, 1, 1);
        Due.chance("CLOSED in the first wet HOUR", sewing(ONE), 0, 8, 10, 1, 1);
    }

    private static void promise25_lightIsAsTold() {
        SeamMere x = sewing("g0,0,1,0,4;d0,0,1;l2;");
        Due.chance("two HOURS of light", x, 0, 8, 5, 1, 2);
        x.pass(2);
        Due.chance("CLOSED", x, 0, 8, 5, 1, 1);
        x.frog(0);
        x.send(0, 0);
        Due.chance("by night", x, 0, 8, 0, 0, 1);
        x.pass(16);
        Due.chance("6 of night, 2 of light", x, 0, 8, 0, 1, 1);
        Due.chance("6 of night, 1 of light", x, 0, 7, 0, 0, 1);
    }

    private static void promise25_aWakeLoses2AndNoneBelow0() {
        SeamMere x = Due.laid("g2,0,1,0,5;d2,0,1;d1,0,1;l24;");
        x.send(0, 0);
        // 4 or 2, then CLOSED if 4; else 4 again of 6 is CLOSED, too.
        Due.chance("4 a HOUR", x, 0, 2, 6, 1, 1);
        x.send(0, -1);
        x.send(1, 0);
        // 1 a HOUR and never below 0: five dry HOURS in a row.
        Due.chance("1 a HOUR", x, 0, 5, 5, 1, 16);
        Due.chance("1 a HOUR in 6", x, 0, 6, 5, 3, 32);
    }

    private static void promise25_nothingChanges() {
        Due.only(Due::rich, "showers", x -> x.showers(1, 8, 5, 0) + x.showers(2, 8, 10, 1));
    }

    // ---- 26: summer

    private static int draw(int z, int k) {
        long x = 7919L * z + 6151L * k + 1;
        return (int) (x * x % 65521);
    }

    /** The lowest z by which the first draws modulo 8 are these. */
    private static int drawing(int... due) {
        for (int z = 0; z <= 9999; z++) {
            boolean so = true;
            for (int k = 0; k < due.length; k++) {
                so &= draw(z, k) % 8 == due[k];
            }
            if (so) {
                return z;
            }
        }
        throw new IllegalStateException("no such z");
    }

    private static void summer(String what, SeamMere x, int z, int n, int closed, int stitches) {
        Due.is(what + ": CLOSED", x.summer(z, n, 0), closed);
        Due.is(what + ": STITCHES", x.summer(z, n, 1), stitches);
    }

    private static void promise26_0To9999AreTaken() {
        int[] some = {0, 1, 9998, 9999};
        for (int z : some) {
            for (int n = 1; n <= 60; n += 59) {
                Due.is("CLOSED by " + z, new SeamMere().summer(z, n, 0), new PlainMere().summer(z, n, 0));
                Due.is("STITCHES by " + z, new SeamMere().summer(z, n, 1), new PlainMere().summer(z, n, 1));
            }
        }
    }

    private static void promise26_otherDrawsAreBad() {
        for (int z : Due.outside(0, 9999)) {
            Due.bad(Due::rich, "summer " + z + ",9,0", x -> x.summer(z, 9, 0));
            Due.bad(Due::rich, "summer " + z + ",9,1", x -> x.summer(z, 9, 1));
        }
    }

    private static void promise26_1To60HoursAreTaken() {
        // 40 HOURS of flight and 20 of sewing; with one GAP alone a draw changes nothing until it is CLOSED.
        SeamMere x = sewing("g0,0,1,0,20;d1,40,1;l24;");
        for (int z = 0; z < 9999; z += 1111) {
            summer("1 HOUR", x, z, 1, 0, 0);
            summer("40 HOURS", x, z, 40, 0, 0);
            summer("41 HOURS", x, z, 41, 0, 1);
            summer("59 HOURS", x, z, 59, 0, 19);
            summer("60 HOURS", x, z, 60, 1, 20);
        }
    }

    private static void promise26_otherHoursAreBad() {
        for (int n : Due.outside(1, 60)) {
            Due.bad(Due::rich, "summer 5," + n + ",0", x -> x.summer(5, n, 0));
            Due.bad(Due::rich, "summer 5," + n + ",1", x -> x.summer(5, n, 1));
        }
    }

    private static void promise26_elseThan0And1IsBad() {
        for (int what : Due.outside(0, 1)) {
            Due.bad(Due::rich, "summer 5,9," + what, x -> x.summer(5, 9, what));
        }
    }

    private static void promise26_draws0To3Send() {
        for (int rest = 0; rest <= 3; rest++) {
            summer("DRAW modulo 8 is " + rest, Due.laid(ONE), drawing(rest), 1, 1, 2);
        }
    }

    private static void promise26_draw4IsAFrog() {
        SeamMere x = sewing(ONE);
        x.pass(1);
        summer("at a CLOSED GAP", x, drawing(4), 1, 0, 0);
        for (int rest = 5; rest <= 7; rest++) {
            summer("modulo 8 is " + rest, x, drawing(rest), 1, 1, 2);
        }
        for (int rest = 0; rest <= 3; rest++) {
            summer("modulo 8 is " + rest, x, drawing(rest), 1, 1, 2);
        }
    }

    private static void promise26_draws5To7AreNothing() {
        for (int rest = 5; rest <= 7; rest++) {
            summer("modulo 8 is " + rest, Due.laid(ONE), drawing(rest), 1, 0, 0);
        }
        summer("a frog at an open GAP", Due.laid(ONE), drawing(4), 1, 0, 0);
    }

    private static void promise26_aFrogAtAnOpenGapCannotBe() {
        SeamMere x = sewing("g0,0,1,0,20;d0,0,1;l24;");
        x.pass(3);
        summer("its STITCHES stay", x, drawing(4), 1, 0, 8);
        summer("twice", x, drawing(4, 4), 2, 0, 10);
    }

    private static void promise26_sendingToAClosedGapCannotBe() {
        SeamMere x = Due.laid("g0,0,1,0,2;g0,0,1,0,9;d0,0,1;l24;");
        Due.sewAll(x, 0);
        x.send(0, 1);
        int z = 0;
        while (draw(z, 0) % 8 > 3 || draw(z, 0) / 64 % 2 != 0) {
            z++;
        }
        summer("it sews on where it is SENT", x, z, 1, 1, 4);
        x.send(0, -1);
        summer("or stays where it is", x, z, 1, 1, 2);
    }

    private static void promise26_whoIsSentWhere() {
        // STITCHES in an HOUR tell who it was; GAPS of WIDTHS 1, 3 and 20 tell where, as far as they are fewer.
        SeamMere x = Due.laid("g0,0,1,0,1;g0,0,1,0,3;g0,0,1,0,20;d0,0,1;d1,0,1;d2,0,1;d0,9,1;l24;");
        int[] does = {2, 1, 4, 0};
        int[] widths = {1, 3, 20};
        for (int z = 0; z < 100; z++) {
            int draw = draw(z, 0);
            int width = widths[draw / 64 % 3];
            int due = draw % 8 > 3 ? 0 : Math.min(width, does[draw / 8 % 4]);
            summer("by " + z, x, z, 1, due == width ? 1 : 0, due);
        }
    }

    private static void promise26_whereTheFrogIs() {
        SeamMere x = Due.laid("g0,0,1,0,1;g0,0,1,0,2;g0,0,1,0,4;d2,0,1;l24;");
        Due.sewAll(x, 0, 1, 2);
        int[] widths = {1, 2, 4};
        int frogs = 0;
        for (int z = 0; frogs < 40; z++) {
            if (draw(z, 0) % 8 == 4) {
                frogs++;
                summer("by " + z, x, z, 1, 2, 7 - widths[draw(z, 0) / 8 % 3]);
            }
        }
    }

    private static void promise26_theDrawIsAheadOfItsHour() {
        SeamMere x = Due.laid("g0,0,1,0,4;d0,0,1;l24;");
        int z = drawing(6, 1);
        summer("nothing in the first HOUR", x, z, 1, 0, 0);
        summer("SENT ahead of the second", x, z, 2, 0, 2);
        int again = drawing(1, 7);
        summer("SENT ahead of the first", x, again, 1, 0, 2);
        summer("it sews on in the second", x, again, 2, 1, 4);
        SeamMere closed = sewing(ONE);
        int frog = drawing(4, 0);
        summer("a frog ahead of the first", closed, frog, 1, 1, 2);
        closed.pass(1);
        summer("at what is CLOSED", closed, frog, 1, 0, 0);
        summer("SENT ahead of the second", closed, frog, 2, 1, 2);
    }

    private static void promise26_theFirstDrawIsNowsWhateverTheHour() {
        SeamMere x = Due.laid(ONE);
        for (int hour = 0; hour < 30; hour++) {
            summer("from HOUR " + hour, x, drawing(2), 1, 1, 2);
            summer("nothing from HOUR " + hour, x, drawing(5), 1, 0, 0);
            x.pass(1);
        }
    }

    private static void promise26_rainAndLightAreAsTold() {
        SeamMere wet = sewing("g0,0,1,0,20;d1,0,1;l24;r0;r0;r1;");
        summer("two dry HOURS", wet, 3, 2, 0, 2);
        summer("a wet one", wet, 3, 3, 0, 2);
        wet.pass(2);
        summer("a wet one now", wet, 3, 1, 0, 2);
        SeamMere dark = sewing("g0,0,1,0,20;d1,0,1;l5;");
        summer("5 HOURS of light", dark, 3, 5, 0, 5);
        summer("a day", dark, 3, 24, 0, 5);
        summer("a day and an HOUR", dark, 3, 25, 0, 6);
        summer("two days and a half", dark, 3, 60, 0, 15);
    }

    private static void promise26_whoIsSentNowStaysSo() {
        SeamMere x = sewing("g0,0,1,0,20;g0,0,1,0,20;d2,0,1;l24;");
        summer("nothing drawn", x, drawing(5, 6, 7), 3, 0, 12);
    }

    private static void promise26_nothingChanges() {
        for (int z = 0; z < 9999; z += 999) {
            int draws = z;
            Due.only(Due::rich, "summer " + z, x -> x.summer(draws, 60, 0));
            Due.only(Due::rich, "summer " + z, x -> x.summer(draws, 60, 1));
        }
    }

    // ---- 27: keep

    private static void promise27_twoAreTakenTheThirdIsFull() {
        SeamMere x = new SeamMere();
        Due.is("the first", x.keep(), 1);
        Due.is("the second", x.keep(), 2);
        Due.is("the third", x.keep(), FULL);
        Due.is("KEPT", x.count(10), 2);
        x.back();
        Due.is("one is taken back", x.keep(), 2);
        Due.is("full again", x.keep(), FULL);
        x.back();
        x.back();
        Due.is("both are taken back", x.keep(), 1);
    }

    private static void promise27_fullChangesNothing() {
        Due.refused(Due::full, "keep", FULL, x -> x.keep());
        Due.refused(() -> {
            SeamMere x = Due.full();
            x.frog(1);
            x.send(1, 1);
            return x;
        }, "keep of another standing", FULL, x -> x.keep());
    }

    private static void promise27_onlyWhatIsKeptChanges() {
        SeamMere x = Due.rich();
        Due.is("keep", x.keep(), 2);
        Due.is("UNDONE as ahead of it", x.count(9), 6);
        Due.is("SEEN", x.count(8), 2);
        Due.alike("how it stands", Story.standing(x), Story.standing(Due.rich()));
        x.undo();
        Due.is("KEPT is not UNDONE", x.count(10), 2);
    }

    private static void promise27_whatIsKeptStaysAsItWas() {
        SeamMere x = Due.rich();
        String kept = Story.standing(x);
        x.keep();
        x.pass(24);
        x.frog(0);
        x.send(0, 0);
        x.pass(3);
        x.undo();
        x.summer(5, 60, 0);
        x.deal(24, 0);
        x.order(0, 24, 0);
        x.back();
        Due.alike("as KEPT", Story.standing(x), kept);
    }

    // ---- 28: back

    private static void promise28_noIfNothingIsKept() {
        Due.refused(SeamMere::new, "back of a new object", NO, x -> x.back());
        Due.refused(() -> {
            SeamMere x = Due.rich();
            x.back();
            x.pass(2);
            x.frog(0);
            return x;
        }, "back of none left", NO, x -> x.back());
        SeamMere laid = Due.full();
        laid.lay();
        Due.is("behind lay", laid.back(), NO);
    }

    private static void promise28_theAnswerIsHowManyAreLeft() {
        SeamMere x = Due.full();
        Due.is("the last one", x.back(), 1);
        Due.is("KEPT", x.count(10), 1);
        Due.is("the first one", x.back(), 0);
        Due.is("none", x.count(10), 0);
        Due.is("no more", x.back(), NO);
    }

    private static void promise28_theLastOneIsFirst() {
        SeamMere x = Due.laid(ONE);
        x.pass(3);
        x.keep();
        x.send(0, 0);
        x.pass(4);
        x.keep();
        x.pass(5);
        x.back();
        Due.is("HOUR of the last", x.count(3), 7);
        Due.is("CLOSED", x.gap(0, 6), 1);
        x.pass(1);
        x.back();
        Due.is("HOUR of the first", x.count(3), 3);
        Due.is("not CLOSED", x.gap(0, 5), 0);
    }

    private static void promise28_allAsItStood() {
        SeamMere x = Due.rich();
        x.keep();
        SeamMere twin = Due.rich();
        x.pass(20);
        x.frog(1);
        x.send(1, 1);
        x.pass(1);
        x.back();
        Due.alike("HOUR, STITCHES, places, goals", Story.standing(x), Story.standing(twin));
        x.pass(9);
        twin.pass(9);
        Due.alike("and goes on so", Story.standing(x), Story.standing(twin));
    }

    private static void promise28_whatIsSeenAndTheTextStay() {
        SeamMere x = Due.rich();
        x.see(0, 2, 1);
        x.write('x');
        int letters = x.count(11);
        x.back();
        Due.is("SEEN", x.count(8), 3);
        Due.is("letters", x.count(11), letters);
        Due.is("FAULT", x.fault(), letters - 1);
        SeamMere none = Due.rich();
        none.forget();
        none.wipe();
        none.back();
        Due.is("forgotten", none.count(8), 0);
        Due.is("wiped", none.count(11), 0);
    }

    private static void promise28_nothingIsUndoneThen() {
        SeamMere x = Due.rich();
        Due.is("can be UNDONE ahead of it", x.count(9), 6);
        x.back();
        Due.is("none behind it", x.count(9), 0);
        Due.is("undo", x.undo(), NO);
        Due.is("HOUR", x.count(3), 1);
        for (int i = 1; i <= 9; i++) {
            x.pass(1);
            Due.is("UNDONE anew", x.count(9), Math.min(i, 8));
        }
        for (int i = 8; i >= 1; i--) {
            Due.is("undo", x.undo(), i - 1);
        }
        Due.is("HOUR", x.count(3), 2);
        Due.is("no more", x.undo(), NO);
    }

    private static void promise28_aStandingThatWasUndoneCanBeKept() {
        SeamMere x = Due.rich();
        x.undo();
        String standing = Story.standing(x);
        x.keep();
        x.undo();
        x.back();
        Due.alike("as KEPT", Story.standing(x), standing);
    }

    // ---- 29: count

    private static void counts(String what, SeamMere x, int... due) {
        for (int i = 0; i < due.length; i++) {
            Due.is(what + ": count " + i, x.count(i), due[i]);
        }
    }

    private static void promise29_whatElseThan0To11IsBad() {
        for (int what : Due.outside(0, 11)) {
            Due.bad(Due::rich, "count " + what, x -> x.count(what));
            Due.is("count " + what + " of a new object", new SeamMere().count(what), BAD);
        }
    }

    private static void promise29_theFewest() {
        counts("fewest", Due.laid("p2;g0,0,1,0,1;d0,0,1;"), 2, 1, 1, 0, 0, 0, 0, 2, 0, 0, 0, 21);
        counts("a new object", new SeamMere(), 6, 7, 4, 0, 0, 0, 0, 6, 0, 0, 0, 0);
    }

    private static void promise29_theMost() {
        SeamMere x = Due.laid("p8;g0,0,1,0,20;g0,1,2,0,20;g0,2,3,0,20;g0,3,4,0,20;g0,4,5,0,20;g0,5,6,0,20;g0,6,7,0,20;g0,7,0,0,20;"
            + "d2,0,1;d2,0,1;d2,0,1;d2,0,1;l24;");
        for (int g = 0; g < 8; g += 4) {
            for (int d = 0; d < 4; d++) {
                x.send(d, g + d);
            }
            x.pass(4);
            Due.is("SENT", x.count(6), 4);
            Due.is("one HOUR short", x.count(5), 20 * g + 64);
            x.pass(1);
            Due.is("SENT no more", x.count(6), 0);
        }
        for (int i = 0; i < 9; i++) {
            x.see(0, 1, 1);
            x.keep();
        }
        x.pass(1);
        counts("most", x, 8, 8, 4, 11, 8, 160, 0, 1, 8, 8, 2, 131);
        Due.writeOn(x, "x".repeat(70));
        Due.is("letters", x.count(11), 200);
    }

    private static void promise29_heapsFrom8To1() {
        SeamMere x = Due.laid("p8;g0,0,1,0,2;g0,2,3,0,2;g0,1,3,0,2;g0,0,2,0,2;g0,4,5,0,2;g0,5,6,0,2;g0,6,7,0,2;g0,0,7,0,2;" + "d0,0,1;l24;");
        int[] due = {7, 6, 5, 5, 4, 3, 2, 1};
        Due.is("each alone", x.count(7), 8);
        for (int g = 0; g < 8; g++) {
            Due.sewAll(x, g);
            Due.is("behind " + g, x.count(7), due[g]);
        }
        x.frog(2);
        Due.is("another way is left", x.count(7), 1);
        x.frog(7);
        Due.is("two heaps", x.count(7), 2);
    }

    private static void promise29_closedAndStitches() {
        SeamMere x = Due.laid("g0,0,1,0,3;g0,0,1,0,3;d0,0,1;d1,0,1;");
        x.send(0, 0);
        x.send(1, 1);
        x.pass(1);
        counts("an HOUR", x, 4, 2, 2, 1, 0, 3, 2, 4);
        x.pass(1);
        counts("two HOURS", x, 4, 2, 2, 2, 1, 5, 1, 3);
        x.pass(1);
        counts("three HOURS", x, 4, 2, 2, 3, 2, 6, 0, 3);
        x.frog(0);
        counts("a frog", x, 4, 2, 2, 3, 1, 3, 0, 3, 0, 6);
    }

    private static void promise29_nothingChanges() {
        for (int what = 0; what <= 11; what++) {
            int number = what;
            Due.only(Due::rich, "count " + what, x -> x.count(number));
        }
    }
}
