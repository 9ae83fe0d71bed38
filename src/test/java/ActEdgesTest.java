/** Promises 10 to 13, a test for each boundary that the document names: sending, HOURS, FROGS and what is UNDONE. */
public final class ActEdgesTest {
    private static final int NO = SeamMere.NO, NONE = SeamMere.NONE;

    public static void main(String[] args) {
        Due.runAll(ActEdgesTest.class);
    }

    // ---- 10: send

    private static void promise10_theAnswerIsToWhichItWasSent() {
        SeamMere x = Due.laid("g0,0,1,9,9;".repeat(8) + "d0,0,1;".repeat(4));
        Due.is("to none", x.send(3, 0), NONE);
        Due.is("to GAP 0", x.send(3, 7), 0);
        Due.is("to GAP 7", x.send(3, 1), 7);
        Due.is("to GAP 1, called off", x.send(3, -1), 1);
        Due.is("to none again", x.send(3, 7), NONE);
        Due.is("the goal", x.stitcher(3, 3), 7);
        Due.is("another's", x.send(0, 7), NONE);
    }

    private static void promise10_whatIsNoStitcherIsBad() {
        for (int d : Due.outside(0, 1)) {
            Due.bad(Due::rich, "send " + d + ",2", x -> x.send(d, 2));
        }
        Due.is("the second of one", Due.laid("g0,0,1,0,1;d0,0,1;").send(1, 0), SeamMere.BAD);
        Due.is("the fifth", new SeamMere().send(4, 0), SeamMere.BAD);
        Due.is("the fourth", new SeamMere().send(3, 0), NONE);
    }

    private static void promise10_whatIsNoGapIsBad() {
        for (int g : Due.outside(-1, 2)) {
            Due.bad(Due::rich, "send 0," + g, x -> x.send(0, g));
        }
        Due.bad(Due::rich, "NONE is no GAP", x -> x.send(1, NONE));
        Due.is("the second of one", Due.laid("g0,0,1,0,1;d0,0,1;").send(0, 1), SeamMere.BAD);
        Due.is("the eighth of seven", new SeamMere().send(0, 7), SeamMere.BAD);
        Due.is("the seventh", new SeamMere().send(0, 6), NONE);
    }

    private static void promise10_onlyMinus1IsCallingOff() {
        for (int g : new int[] {-2, -3, -4, -5, Integer.MIN_VALUE}) {
            Due.bad(Due::rich, "send 0," + g, x -> x.send(0, g));
        }
        SeamMere x = Due.rich();
        Due.is("called off", x.send(0, -1), 1);
        Due.is("it is SENT no more", x.stitcher(0, 3), NONE);
    }

    private static void promise10_noToAClosedGap() {
        Due.is("it is CLOSED", Due.rich().gap(0, 6), 1);
        Due.refused(Due::rich, "send 0,0", NO, x -> x.send(0, 0));
        Due.refused(Due::rich, "send 1,0", NO, x -> x.send(1, 0));
    }

    private static void promise10_oneStitchShortIsNotClosed() {
        SeamMere x = Due.laid("g0,0,1,0,2;d1,0,1;d0,9,1;");
        x.send(0, 0);
        x.pass(1);
        Due.is("one of two", x.send(1, 0), NONE);
        x.pass(1);
        Due.is("CLOSED", x.send(0, 0), NO);
        x.frog(0);
        Due.is("cut", x.send(0, 0), NONE);
    }

    private static void promise10_noIfItIsSentThereAlready() {
        Due.refused(Due::rich, "send 0,1", NO, x -> x.send(0, 1));
        Due.refused(Due::rich, "send 1,2", NO, x -> x.send(1, 2));
    }

    private static void promise10_noIfItIsCalledOffAlready() {
        Due.refused(SeamMere::new, "never SENT", NO, x -> x.send(0, -1));
        Due.refused(() -> {
            SeamMere x = Due.rich();
            x.send(0, -1);
            return x;
        }, "called off", NO, x -> x.send(0, -1));
        SeamMere closed = Due.laid("g0,0,1,0,2;d0,0,1;");
        closed.send(0, 0);
        closed.pass(1);
        Due.is("its GAP is CLOSED", closed.send(0, -1), NO);
    }

    private static void promise10_badIsAheadOfNo() {
        for (int d : Due.outside(0, 1)) {
            Due.bad(Due::rich, "to a CLOSED GAP " + d, x -> x.send(d, 0));
            Due.bad(Due::rich, "called off " + d, x -> x.send(d, -1));
            Due.bad(Due::rich, "to the same GAP " + d, x -> x.send(d, 1));
        }
    }

    private static void promise10_onlyOneIsSent() {
        SeamMere x = Due.laid("g0,0,1,0,9;g0,0,1,5,9;d0,0,1;d0,0,1;d0,0,1;d0,0,1;");
        x.send(1, 0);
        x.send(2, 1);
        x.send(3, 1);
        x.send(2, -1);
        int[] goals = {NONE, 0, NONE, 1};
        for (int d = 0; d < 4; d++) {
            Due.is("goal of " + d, x.stitcher(d, 3), goals[d]);
        }
        Due.is("SENT", x.count(6), 2);
    }

    private static void promise10_noHourGoesBy() {
        SeamMere x = Due.rich();
        String before = x.count(3) + " " + x.gap(1, 5) + " " + x.stitcher(0, 1) + " " + x.stitcher(1, 1);
        x.send(0, 2);
        x.send(1, 1);
        x.send(0, -1);
        Due.alike("HOUR, STITCHES, places", x.count(3) + " " + x.gap(1, 5) + " " + x.stitcher(0, 1) + " " + x.stitcher(1, 1), before);
    }

    private static void promise10_itCanBeSentInTheDark() {
        SeamMere x = Due.laid("g0,0,1,0,2;d0,0,1;l1;");
        x.pass(1);
        Due.is("in the dark", x.send(0, 0), NONE);
        x.pass(23);
        Due.is("not sewn by night", x.gap(0, 5), 0);
        x.pass(1);
        Due.is("sewn in the morning", x.gap(0, 6), 1);
    }

    // ---- 11: pass

    private static void promise11_1To24HoursAreTaken() {
        for (int n = 1; n <= 24; n++) {
            Due.is("pass " + n, new SeamMere().pass(n), n);
        }
    }

    private static void promise11_otherHoursAreBad() {
        for (int n : Due.outside(1, 24)) {
            Due.bad(Due::rich, "pass " + n, x -> x.pass(n));
            Due.bad(SeamMere::new, "pass " + n, x -> x.pass(n));
        }
    }

    private static void promise11_theAnswerIsOfAllHours() {
        SeamMere x = new SeamMere();
        Due.is("24", x.pass(24), 24);
        Due.is("and 1", x.pass(1), 25);
        Due.is("and 24", x.pass(24), 49);
        for (int i = 1; i <= 100; i++) {
            Due.is("and more", x.pass(24), 49 + 24 * i);
        }
        Due.is("all", x.count(3), 2449);
    }

    private static void promise11_hoursAtOnceAreAsOneByOne() {
        for (int n = 1; n <= 24; n++) {
            SeamMere x = Due.rich();
            SeamMere twin = Due.rich();
            x.pass(n);
            for (int i = 0; i < n; i++) {
                twin.pass(1);
            }
            Due.alike(n + " hours", Story.standing(x), Story.standing(twin));
        }
    }

    private static SeamMere sewing(String light) {
        SeamMere x = Due.laid("g0,0,1,0,20;d1,0,1;" + light);
        x.send(0, 0);
        return x;
    }

    private static void promise11_itIsLightInHourLLess1AndNotInHourL() {
        SeamMere x = sewing("l3;");
        int[] due = {1, 2, 3, 3};
        for (int h = 0; h < due.length; h++) {
            x.pass(1);
            Due.is("STITCHES behind HOUR " + h, x.gap(0, 5), due[h]);
        }
        x.pass(20);
        Due.is("STITCHES behind HOUR 23", x.gap(0, 5), 3);
        x.pass(1);
        Due.is("STITCHES behind HOUR 24", x.gap(0, 5), 4);
        x.pass(2);
        Due.is("STITCHES behind HOUR 26", x.gap(0, 5), 6);
        x.pass(1);
        Due.is("STITCHES behind HOUR 27", x.gap(0, 5), 6);
    }

    private static void promise11_oneHourOfLight() {
        SeamMere x = sewing("l1;");
        x.pass(24);
        Due.is("a day", x.gap(0, 5), 1);
        x.pass(1);
        Due.is("a day and an hour", x.gap(0, 5), 2);
        x.pass(23);
        Due.is("two days", x.gap(0, 5), 2);
    }

    private static void promise11_23And24HoursOfLight() {
        SeamMere most = Due.laid("g0,0,1,0,1;d0,40,1;l23;");
        SeamMere all = Due.laid("g0,0,1,0,1;d0,40,1;l24;");
        most.send(0, 0);
        all.send(0, 0);
        most.pass(23);
        all.pass(23);
        Due.is("23 of 23", most.stitcher(0, 1), 17);
        Due.is("23 of 24", all.stitcher(0, 1), 17);
        most.pass(1);
        all.pass(1);
        Due.is("HOUR 23 is dark", most.stitcher(0, 1), 17);
        Due.is("HOUR 23 is light", all.stitcher(0, 1), 16);
    }

    private static void promise11_twelveHoursOfLightWithoutL() {
        SeamMere x = sewing("");
        x.pass(12);
        Due.is("behind HOUR 11", x.gap(0, 5), 12);
        x.pass(12);
        Due.is("behind HOUR 23", x.gap(0, 5), 12);
    }

    private static int flown(int from, int to, int pace) {
        SeamMere x = Due.laid("g0,0,1," + to + ",1;d0," + from + "," + pace + ";");
        x.send(0, 0);
        x.pass(1);
        Due.is("none is sewn in flight", x.gap(0, 5), 0);
        return x.stitcher(0, 1);
    }

    private static void promise11_itFliesByPaceAsFarAsItGoes() {
        for (int pace = 1; pace <= 9; pace++) {
            for (int way = 1; way <= 12; way++) {
                Due.is("right by " + pace + " of " + way, flown(20, 20 + way, pace), 20 + Math.min(pace, way));
                Due.is("left by " + pace + " of " + way, flown(20, 20 - way, pace), 20 - Math.min(pace, way));
            }
        }
        Due.is("from 0 to 40", flown(0, 40, 9), 9);
        Due.is("from 40 to 0", flown(40, 0, 9), 31);
    }

    private static void promise11_inTheHourOfArrivalItDoesNotSew() {
        SeamMere x = Due.laid("g0,0,1,4,9;d0,0,4;");
        x.send(0, 0);
        x.pass(1);
        Due.is("there", x.stitcher(0, 1), 4);
        Due.is("not sewn yet", x.gap(0, 5), 0);
        x.pass(1);
        Due.is("still there", x.stitcher(0, 1), 4);
        Due.is("sewn", x.gap(0, 5), 2);
    }

    private static void promise11_inTheDarkNoneFlies() {
        SeamMere x = Due.laid("g0,0,1,40,1;d0,0,3;l2;");
        x.send(0, 0);
        x.pass(2);
        Due.is("by day", x.stitcher(0, 1), 6);
        x.pass(22);
        Due.is("by night", x.stitcher(0, 1), 6);
        Due.is("still SENT", x.stitcher(0, 3), 0);
        x.pass(1);
        Due.is("by day again", x.stitcher(0, 1), 9);
    }

    private static void promise11_whoIsNotSentStays() {
        SeamMere x = Due.laid("g0,0,1,9,9;g0,0,1,0,9;d0,0,1;d0,0,3;");
        x.send(1, 0);
        x.pass(1);
        x.send(1, -1);
        x.pass(5);
        Due.is("never SENT", x.stitcher(0, 1), 0);
        Due.is("called off", x.stitcher(1, 1), 3);
        Due.is("none is sewn", x.count(5), 0);
    }

    private static void sewn(String what, int kind, int gapKind, int width, int due) {
        SeamMere x = Due.laid("g" + gapKind + ",0,1,5," + width + ";d" + kind + ",5,1;");
        x.send(0, 0);
        x.pass(1);
        Due.is(what + " at KIND " + gapKind + " of " + width, x.gap(0, 5), due);
    }

    private static void promise11_aBlueOneDoes2() {
        sewn("BLUE", 0, 0, 20, 2);
        sewn("BLUE", 0, 2, 20, 2);
        sewn("BLUE", 0, 3, 20, 2);
    }

    private static void promise11_aRedOneDoes1But4AtAScar() {
        sewn("RED", 1, 0, 20, 1);
        sewn("RED", 1, 1, 20, 4);
        sewn("RED", 1, 2, 20, 1);
        sewn("RED", 1, 3, 20, 1);
    }

    private static void promise11_aTandemOneDoes4ButNoneAtALetter() {
        sewn("TANDEM", 2, 0, 20, 4);
        sewn("TANDEM", 2, 2, 20, 4);
        sewn("TANDEM", 2, 3, 20, 0);
        sewn("TANDEM", 2, 3, 1, 0);
    }

    private static void promise11_aYoungOneDoes1ButNoneAboveWidth6() {
        for (int width = 1; width <= 20; width++) {
            for (int gapKind : new int[] {0, 2, 3}) {
                sewn("YOUNG", 3, gapKind, width, width <= 6 ? 1 : 0);
            }
        }
    }

    private static void promise11_onlyRedOnesSewAScar() {
        for (int width = 1; width <= 20; width++) {
            sewn("BLUE", 0, 1, width, 0);
            sewn("RED", 1, 1, width, Math.min(4, width));
            sewn("TANDEM", 2, 1, width, 0);
            sewn("YOUNG", 3, 1, width, 0);
        }
    }

    private static void promise11_noMoreStitchesThanTheWidth() {
        for (int width = 1; width <= 20; width++) {
            sewn("BLUE", 0, 0, width, Math.min(2, width));
            sewn("TANDEM", 2, 0, width, Math.min(4, width));
        }
        SeamMere x = Due.laid("g0,0,1,0,7;d2,0,1;d2,0,1;d2,0,1;d2,0,1;");
        for (int d = 0; d < 4; d++) {
            x.send(d, 0);
        }
        x.pass(1);
        Due.is("four at once", x.gap(0, 5), 7);
        x.pass(24);
        Due.is("a day on", x.gap(0, 5), 7);
    }

    private static void promise11_itIsClosedWithAsManyStitchesAsItsWidth() {
        for (int width = 1; width <= 20; width++) {
            SeamMere x = Due.laid("g0,0,1,0," + width + ";d1,0,1;l24;");
            x.send(0, 0);
            for (int h = 1; h < width; h++) {
                x.pass(1);
                Due.is("not CLOSED, " + h + " of " + width, x.gap(0, 6), 0);
                Due.is("still SENT", x.stitcher(0, 3), 0);
            }
            x.pass(1);
            Due.is("CLOSED", x.gap(0, 6), 1);
            Due.is("SENT no more", x.stitcher(0, 3), NONE);
        }
    }

    private static void promise11_0IsFirstAndAllAreSentNoMoreAtOnce() {
        SeamMere x = Due.laid("g0,0,1,10,2;g0,0,1,30,9;d1,0,3;d0,10,1;d1,0,3;d1,20,3;");
        x.send(0, 0);
        x.send(1, 0);
        x.send(2, 0);
        x.send(3, 1);
        x.pass(1);
        Due.is("CLOSED by 1", x.gap(0, 6), 1);
        Due.is("0 has flown ahead of it", x.stitcher(0, 1), 3);
        Due.is("2 has not", x.stitcher(2, 1), 0);
        Due.is("3 flies elsewhere", x.stitcher(3, 1), 23);
        int[] goals = {NONE, NONE, NONE, 1};
        for (int d = 0; d < 4; d++) {
            Due.is("goal of " + d, x.stitcher(d, 3), goals[d]);
        }
        x.pass(1);
        Due.is("0 flies no more", x.stitcher(0, 1), 3);
        Due.is("3 flies on", x.stitcher(3, 1), 26);
    }

    private static void promise11_allAtAGapSewInTheHour() {
        SeamMere x = Due.laid("g0,0,1,0,20;d0,0,1;d1,0,1;d2,0,1;d0,0,1;");
        for (int d = 0; d < 4; d++) {
            x.send(d, 0);
        }
        x.pass(1);
        Due.is("2, 1, 4 and 2", x.gap(0, 5), 9);
    }

    private static void promise11_rainTakes1And0AtLeast() {
        for (int kind : new int[] {0, 1, 3}) {
            SeamMere x = Due.laid("g" + kind + ",0,1,0,20;d1,0,1;r0;r1;r1;");
            int first = kind == 1 ? 4 : 1;
            x.send(0, 0);
            x.pass(1);
            x.send(0, -1);
            Due.is("sewn", x.gap(0, 5), first);
            x.pass(1);
            Due.is("1 less", x.gap(0, 5), first - 1);
            x.pass(1);
            Due.is("0 at least", x.gap(0, 5), Math.max(0, first - 2));
        }
    }

    private static void promise11_rainTakes2OfAWakeAnd0AtLeast() {
        SeamMere x = Due.laid("g2,0,1,0,20;g2,0,1,0,20;g2,0,1,0,20;g2,0,1,0,20;d1,0,1;d0,0,1;d2,0,1;r0;r1;");
        x.send(0, 0);
        x.send(1, 1);
        x.send(2, 2);
        x.pass(1);
        for (int d = 0; d < 3; d++) {
            x.send(d, -1);
        }
        x.pass(1);
        int[] due = {0, 0, 2, 0};
        for (int g = 0; g < 4; g++) {
            Due.is("WAKE " + g, x.gap(g, 5), due[g]);
        }
    }

    private static void promise11_rainTakesNoneOfWhatIsClosed() {
        for (int kind = 0; kind < 4; kind++) {
            SeamMere x = Due.laid("g" + kind + ",0,1,0,4;d1,0,1;d0,0,1;d1,0,1;r1;");
            for (int d = 0; d < 3; d++) {
                x.send(d, 0);
            }
            // In the HOUR in which it is CLOSED, too: it is sewn ahead of the rain.
            x.pass(1);
            Due.is("CLOSED, KIND " + kind, x.gap(0, 6), 1);
            x.pass(24);
            Due.is("and stays so", x.gap(0, 5), 4);
        }
    }

    private static void promise11_oneStitchShortIsUnpicked() {
        SeamMere x = Due.laid("g0,0,1,0,3;g2,0,1,0,3;d0,0,1;d0,0,1;r1;");
        x.send(0, 0);
        x.send(1, 1);
        x.pass(1);
        Due.is("PLAIN", x.gap(0, 5), 1);
        Due.is("WAKE", x.gap(1, 5), 0);
        x.pass(1);
        Due.is("PLAIN is CLOSED then", x.gap(0, 6), 1);
        Due.is("WAKE is not", x.gap(1, 5), 0);
    }

    private static void promise11_itRainsByNightToo() {
        SeamMere x = Due.laid("g0,0,1,0,20;g2,0,1,0,20;d2,0,1;d2,0,1;l1;r0;r1;r0;r1;r0;r0;");
        x.send(0, 0);
        x.send(1, 1);
        x.pass(2);
        Due.is("PLAIN in HOUR 1", x.gap(0, 5), 3);
        Due.is("WAKE in HOUR 1", x.gap(1, 5), 2);
        x.pass(2);
        Due.is("PLAIN in HOUR 3", x.gap(0, 5), 2);
        Due.is("WAKE in HOUR 3", x.gap(1, 5), 0);
    }

    private static void promise11_rainFallsOnAllGaps() {
        SeamMere x = Due.laid("g0,0,1,0,20;".repeat(8) + "d2,0,1;l24;" + "r0;".repeat(9) + "r1;");
        for (int g = 0; g < 8; g++) {
            x.send(0, g);
            x.pass(1);
        }
        x.send(0, -1);
        x.pass(2);
        for (int g = 0; g < 8; g++) {
            Due.is("GAP " + g, x.gap(g, 5), 3);
        }
    }

    private static void promise11_behindTheLastRainTheFirstComesAgain() {
        SeamMere x = Due.laid("g0,0,1,0,20;d1,0,1;l24;r1;" + "r0;".repeat(10) + "r1;");
        x.send(0, 0);
        int[] due = {0, 1, 2, 3, 4, 5, 6, 7, 8, 9, 10, 10, 10, 11};
        for (int h = 0; h < due.length; h++) {
            x.pass(1);
            Due.is("STITCHES behind HOUR " + h, x.gap(0, 5), due[h]);
        }
    }

    // ---- 12: frog

    private static SeamMere allClosed() {
        SeamMere x = Due.laid("p8;g0,0,1,0,2;g0,1,2,0,2;g0,2,3,0,2;g0,3,4,0,2;g0,4,5,0,2;g0,5,6,0,2;g0,6,7,0,2;g0,7,0,0,2;d0,0,1;l24;");
        Due.sewAll(x, 0, 1, 2, 3, 4, 5, 6, 7);
        return x;
    }

    private static void promise12_theAnswerIsHowManyAreClosed() {
        SeamMere x = allClosed();
        int[] order = {7, 0, 3, 1, 2, 6, 5, 4};
        for (int i = 0; i < 8; i++) {
            Due.is("frog at " + order[i], x.frog(order[i]), 7 - i);
            Due.is("STITCHES", x.gap(order[i], 5), 0);
        }
        Due.is("none is CLOSED", x.count(4), 0);
    }

    private static void promise12_whatIsNoGapIsBad() {
        for (int g : Due.outside(0, 2)) {
            Due.bad(Due::rich, "frog " + g, x -> x.frog(g));
        }
        Due.is("the ninth", allClosed().frog(8), SeamMere.BAD);
        Due.is("the eighth of seven", new SeamMere().frog(7), SeamMere.BAD);
    }

    private static void promise12_noIfItIsNotClosed() {
        Due.is("it has STITCHES", Due.rich().gap(1, 5) > 0 ? 1 : 0, 1);
        Due.refused(Due::rich, "with STITCHES", NO, x -> x.frog(1));
        Due.refused(Due::rich, "without", NO, x -> x.frog(2));
        Due.refused(SeamMere::new, "new", NO, x -> x.frog(6));
    }

    private static void promise12_noOneStitchShort() {
        SeamMere x = Due.laid("g0,0,1,0,3;d1,0,1;");
        x.send(0, 0);
        x.pass(2);
        Due.is("two of three", x.frog(0), NO);
        Due.is("they stay", x.gap(0, 5), 2);
        x.pass(1);
        Due.is("CLOSED", x.frog(0), 0);
        Due.is("cut already", x.frog(0), NO);
    }

    private static void promise12_onlyItsStitchesGo() {
        SeamMere x = Due.rich();
        Due.is("frog", x.frog(0), 0);
        Due.is("its STITCHES", x.gap(0, 5), 0);
        Due.is("not CLOSED", x.gap(0, 6), 0);
        Due.is("another's STITCHES", x.gap(1, 5), 4);
        Due.is("HOUR", x.count(3), 4);
        Due.is("0 is SENT as it was", x.stitcher(0, 3), 1);
        Due.is("1 too", x.stitcher(1, 3), 2);
        Due.is("where it was", x.stitcher(1, 1), 5);
        Due.is("nothing HANGS TOGETHER by it", x.together(0, 1), 0);
    }

    // ---- 13: undo

    private static void promise13_noIfThereIsNothing() {
        Due.refused(SeamMere::new, "undo of a new object", NO, x -> x.undo());
        SeamMere laid = Due.rich();
        laid.lay();
        Due.is("undo behind lay", laid.undo(), NO);
        SeamMere back = Due.rich();
        back.back();
        Due.is("undo behind back", back.undo(), NO);
        Due.refused(() -> {
            SeamMere x = Due.rich();
            for (int i = 0; i < 6; i++) {
                x.undo();
            }
            return x;
        }, "undo of none left", NO, x -> x.undo());
    }

    private static void promise13_theAnswerIsHowManyMore() {
        SeamMere x = Due.rich();
        for (int more = 5; more >= 0; more--) {
            Due.is("undo", x.undo(), more);
            Due.is("can be", x.count(9), more);
        }
        Due.is("no more", x.undo(), NO);
    }

    private static void promise13_theLastEightCanBe() {
        for (int acts = 1; acts <= 20; acts++) {
            SeamMere x = new SeamMere();
            for (int i = 0; i < acts; i++) {
                x.pass(1);
            }
            int can = Math.min(acts, 8);
            Due.is("of " + acts, x.count(9), can);
            for (int i = 1; i <= can; i++) {
                Due.is("undo " + i + " of " + acts, x.undo(), can - i);
                Due.is("HOUR", x.count(3), acts - i);
            }
            Due.is("the ninth of " + acts, x.undo(), NO);
            Due.is("HOUR stays", x.count(3), acts - can);
        }
    }

    private static void promise13_whatIsUndoneMakesRoom() {
        SeamMere x = new SeamMere();
        for (int i = 0; i < 8; i++) {
            x.pass(1);
        }
        x.undo();
        x.undo();
        x.pass(2);
        Due.is("seven", x.count(9), 7);
        x.pass(2);
        Due.is("eight", x.count(9), 8);
        x.pass(2);
        Due.is("eight at most", x.count(9), 8);
        int[] hours = {10, 8, 6, 5, 4, 3, 2, 1};
        for (int h : hours) {
            x.undo();
            Due.is("HOUR", x.count(3), h);
        }
        Due.is("the ninth", x.undo(), NO);
    }

    private static void promise13_sendingIsUndone() {
        Due.only(Due::rich, "send to another GAP, undo", x -> x.send(0, 2) + x.undo());
        Due.only(Due::rich, "call off, undo", x -> x.send(1, -1) + x.undo());
        SeamMere x = Due.rich();
        x.send(0, -1);
        Due.is("undo", x.undo(), 6);
        Due.is("SENT again", x.stitcher(0, 3), 1);
    }

    private static void promise13_aFrogIsUndone() {
        Due.only(Due::rich, "frog, undo", x -> x.frog(0) + x.undo());
        SeamMere x = Due.rich();
        x.frog(0);
        Due.is("undo", x.undo(), 6);
        Due.is("CLOSED again", x.gap(0, 6), 1);
    }

    private static void promise13_allHoursOfOneTimeAreOne() {
        for (int n = 1; n <= 24; n++) {
            int hours = n;
            Due.only(Due::rich, "pass " + n + ", undo", x -> x.pass(hours) + x.undo());
        }
        SeamMere x = new SeamMere();
        x.pass(24);
        Due.is("one", x.count(9), 1);
        Due.is("undo", x.undo(), 0);
        Due.is("HOUR", x.count(3), 0);
    }

    private static void promise13_aFullPastLosesItsOldest() {
        SeamMere x = Due.full();
        SeamMere twin = Due.full();
        Due.is("frog", x.frog(2), 2);
        Due.is("eight still", x.count(9), 8);
        Due.is("undo", x.undo(), 7);
        Due.alike("as ahead of it", Story.standing(x), Story.standing(twin));
        for (int i = 0; i < 7; i++) {
            Due.is("undo both", x.undo() + 1, twin.undo());
            Due.alike("alike", Story.standing(x), Story.standing(twin));
        }
        Due.is("the oldest is lost", x.undo(), NO);
        Due.is("but not the twin's", twin.undo(), 0);
    }

    private static void promise13_onlySendingFrogsAndHoursAre() {
        SeamMere x = Due.rich();
        x.see(0, 2, 1);
        x.keep();
        x.write('l');
        x.forget();
        x.see(0, 3, 1);
        x.wipe();
        x.closes(1);
        x.summer(3, 9, 0);
        x.lay();
        Due.is("no more than were", x.count(9), 6);
        String standing = Story.standing(x);
        x.pass(3);
        x.undo();
        Due.alike("the HOURS alone", Story.standing(x), standing);
        Due.is("SEEN stays", x.count(8), 1);
        Due.is("KEPT stays", x.count(10), 2);
        Due.is("THE TEXT stays", x.count(11), 0);
    }

    private static void promise13_whatIsRefusedIsNotUndone() {
        SeamMere x = Due.rich();
        String standing = Story.standing(x);
        x.send(0, 0);
        x.send(0, 1);
        x.send(0, 3);
        x.send(2, 0);
        x.pass(0);
        x.pass(25);
        x.frog(1);
        x.frog(3);
        Due.is("no more than were", x.count(9), 6);
        Due.alike("how it stands", Story.standing(x), standing);
        x.undo();
        Due.is("the two HOURS", x.count(3), 2);
    }

    private static void promise13_whatIsUndoneIsNotUndoneAgain() {
        SeamMere x = Due.rich();
        x.undo();
        x.undo();
        Due.is("behind two", x.count(9), 4);
        Due.is("HOUR", x.count(3), 2);
        Due.is("not SENT yet", x.stitcher(1, 3), NONE);
        x.send(1, 1);
        x.undo();
        Due.is("as ahead of it", x.count(9), 4);
        Due.is("HOUR stays", x.count(3), 2);
    }
}
