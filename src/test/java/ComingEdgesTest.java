/** Promises 14 to 17, a test for each boundary that the document names: CLOSES, DUSK, ORDER and DEAL. */
public final class ComingEdgesTest {
    private static final int NONE = SeamMere.NONE, BAD = SeamMere.BAD;

    public static void main(String[] args) {
        Due.runAll(ComingEdgesTest.class);
    }

    // ---- 14: closes

    private static void promise14_0IfItIsClosedNow() {
        Due.is("closes", Due.rich().closes(0), 0);
        SeamMere x = Due.rich();
        x.frog(0);
        Due.is("cut, nobody SENT", x.closes(0), NONE);
    }

    private static void promise14_1IfTheNextHourClosesIt() {
        SeamMere x = Due.laid("g0,0,1,0,2;g0,0,1,0,3;d0,0,1;d0,0,1;");
        x.send(0, 0);
        x.send(1, 1);
        Due.is("one HOUR", x.closes(0), 1);
        Due.is("two HOURS", x.closes(1), 2);
    }

    private static void promise14_60HoursAre61AreNot() {
        // 40 HOURS of flight, then one STITCH in each HOUR.
        SeamMere x = Due.laid("g0,0,1,0,19;g0,0,1,0,20;d1,40,1;d1,40,1;l24;");
        x.send(0, 0);
        x.send(1, 1);
        Due.is("59", x.closes(0), 59);
        Due.is("60", x.closes(1), 60);
        SeamMere later = Due.laid("g0,0,1,0,20;g0,0,1,0,20;g0,0,1,0,20;d1,40,1;d1,39,1;l24;r1;r0;r0;r0;r0;r0;r0;r0;r0;r0;r0;r0;");
        later.send(0, 0);
        later.send(1, 1);
        // Of HOURS 40 to 60 those of 48 and 60 are wet; 0 needs 61 HOURS, 1 needs 60.
        Due.is("61", later.closes(0), NONE);
        Due.is("60 in rain", later.closes(1), 60);
        later.pass(1);
        Due.is("an HOUR later", later.closes(0), 60);
        Due.is("59 then", later.closes(1), 59);
        Due.is("nobody SENT", later.closes(2), NONE);
    }

    private static void promise14_theHoursOfTheNightCount() {
        SeamMere x = Due.laid("g0,0,1,0,6;d0,0,1;l1;");
        x.send(0, 0);
        Due.is("HOUR 48 is the third of light", x.closes(0), 49);
        x.pass(1);
        Due.is("an HOUR later", x.closes(0), 48);
        SeamMere four = Due.laid("g0,0,1,0,8;d0,0,1;l1;");
        four.send(0, 0);
        Due.is("the fourth HOUR of light is too late", four.closes(0), NONE);
        four.pass(12);
        Due.is("61 HOURS", four.closes(0), NONE);
        four.pass(1);
        Due.is("60 HOURS", four.closes(0), 60);
    }

    private static void promise14_noneIfNobodyIsSentOrSews() {
        SeamMere x = Due.laid("g0,0,1,0,1;g3,0,1,0,1;g1,0,1,0,1;g0,0,1,0,7;d2,0,9;d0,0,9;d3,0,9;l24;");
        x.send(0, 1);
        x.send(1, 2);
        x.send(2, 3);
        for (int g = 0; g < 4; g++) {
            Due.is("closes " + g, x.closes(g), NONE);
        }
    }

    private static void promise14_noneIfTheRainUnpicksAsMuch() {
        SeamMere x = Due.laid("g0,0,1,0,2;g2,0,1,0,3;d1,0,1;d0,0,1;l24;r1;");
        x.send(0, 0);
        x.send(1, 1);
        Due.is("1 and 1", x.closes(0), NONE);
        Due.is("2 and 2", x.closes(1), NONE);
    }

    private static void promise14_whatIsNoGapIsBad() {
        for (int g : Due.outside(0, 2)) {
            Due.bad(Due::rich, "closes " + g, x -> x.closes(g));
        }
        Due.is("the eighth of seven", new SeamMere().closes(7), BAD);
        Due.is("the seventh", new SeamMere().closes(6), NONE);
    }

    private static void promise14_nothingChanges() {
        for (int g = 0; g < 3; g++) {
            int gap = g;
            Due.only(Due::rich, "closes " + g, x -> x.closes(gap));
        }
    }

    // ---- 15: dusk

    /** Four GAPS, each a STITCH wider than the one ahead, and a RED one SENT to each. */
    private static SeamMere widths(String sky, int first) {
        SeamMere x = Due.laid("g0,0,1,0," + first + ";g0,0,1,0," + (first + 1) + ";g0,0,1,0," + (first + 2) + ";g0,0,1,0,"
            + (first + 3) + ";d1,0,1;d1,0,1;d1,0,1;d1,0,1;" + sky);
        for (int d = 0; d < 4; d++) {
            x.send(d, d);
        }
        return x;
    }

    private static void promise15_theLastHourOfLightCounts() {
        Due.is("3 HOURS", widths("l3;", 1).dusk(), 7);
        Due.is("2 HOURS", widths("l2;", 1).dusk(), 3);
        Due.is("1 HOUR", widths("l1;", 1).dusk(), 1);
        Due.is("19 HOURS", widths("l19;", 17).dusk(), 7);
        Due.is("23 HOURS", widths("l23;", 17).dusk(), 15);
        Due.is("12 HOURS", widths("", 11).dusk(), 3);
    }

    private static void promise15_itIsFromNowOn() {
        SeamMere x = widths("l4;", 1);
        for (int h = 0; h < 4; h++) {
            Due.is("behind " + h, x.dusk(), 15);
            x.pass(1);
        }
        Due.is("dark", x.dusk(), 15);
        x.frog(0);
        Due.is("cut", x.dusk(), 14);
    }

    private static void promise15_inTheDarkThoseClosedNow() {
        SeamMere x = widths("l2;", 1);
        x.pass(2);
        for (int h = 2; h < 24; h++) {
            Due.is("HOUR " + h, x.dusk(), 3);
            x.pass(1);
        }
        Due.is("HOUR 24 is light", x.dusk(), 15);
    }

    private static void promise15_inTheLastHourOfLightOneHour() {
        SeamMere x = widths("l2;", 1);
        x.pass(1);
        Due.is("HOUR 1", x.dusk(), 3);
        x.pass(24);
        Due.is("HOUR 25", x.dusk(), 15);
        SeamMere one = widths("l1;", 1);
        one.pass(23);
        Due.is("HOUR 23", one.dusk(), 1);
        one.pass(1);
        Due.is("HOUR 24", one.dusk(), 3);
    }

    private static void promise15_theRainOfTheHoursCounts() {
        Due.is("wet", widths("l3;r1;", 1).dusk(), 1);
        // The rain of the first dark HOUR is of no matter, nor is any to what is CLOSED.
        Due.is("wet by night", widths("l3;r0;r0;r0;r1;", 1).dusk(), 7);
        Due.is("wet at last", widths("l3;r0;r0;r1;", 1).dusk(), 7);
    }

    private static void promise15_lightOf24HoursIsBehind24Hours() {
        // 7 HOURS of flight and 17 of sewing are 24; with 18 they are 25.
        SeamMere x = Due.laid("g0,0,1,0,17;g0,0,1,0,18;d1,7,1;d1,7,1;l24;");
        x.send(0, 0);
        x.send(1, 1);
        Due.is("from HOUR 0", x.dusk(), 1);
        x.pass(1);
        Due.is("from HOUR 1", x.dusk(), 3);
        SeamMere late = Due.laid("g0,0,1,0,17;g0,0,1,0,18;d1,7,1;d1,7,1;l24;");
        late.pass(23);
        late.send(0, 0);
        late.send(1, 1);
        Due.is("from HOUR 23", late.dusk(), 1);
        late.pass(1);
        Due.is("from HOUR 24", late.dusk(), 3);
        late.undo();
        late.pass(24);
        Due.is("from HOUR 47", late.dusk(), 3);
    }

    private static void promise15_noneAndAllEight() {
        Due.is("none", new SeamMere().dusk(), 0);
        SeamMere x = Due.laid("g0,0,1,0,1;".repeat(8) + "d0,0,1;l9;");
        x.send(0, 7);
        Due.is("the eighth", x.dusk(), 128);
        Due.sewAll(x, 0, 1, 2, 3, 4, 5, 6);
        x.send(0, 7);
        Due.is("all but one", x.dusk(), 255);
        x.pass(1);
        Due.is("all", x.dusk(), 255);
        x.frog(0);
        Due.is("all but GAP 0", x.dusk(), 254);
    }

    private static void promise15_nothingChanges() {
        Due.only(Due::rich, "dusk", x -> x.dusk());
        Due.only(Due::full, "dusk", x -> x.dusk());
    }

    // ---- 16: order

    private static SeamMere four() {
        return Due.laid("g0,0,1,0,2;g0,0,1,0,4;g0,0,1,0,6;g0,0,1,0,8;d0,0,1;d2,0,1;d1,0,1;l24;");
    }

    private static void promise16_1To24HoursAreTaken() {
        Due.row("1 HOUR", four(), 0, 1, 1, 0);
        Due.row("24 HOURS", four(), 0, 24, 6, 0, 1, 2);
        SeamMere slow = Due.laid("g0,0,1,24,1;g0,0,1,23,1;d0,0,1;l24;");
        Due.row("the 24th HOUR counts", slow, 0, 24, 24, 1);
        Due.row("23 HOURS", slow, 0, 23, 0);
        slow.send(0, 0);
        slow.pass(1);
        Due.row("24 HOURS, an HOUR later", slow, 0, 24, 23, 1);
    }

    private static void promise16_otherHoursAreBad() {
        for (int n : Due.outside(1, 24)) {
            for (int k = -1; k <= 3; k += 2) {
                int place = k;
                Due.bad(Due::rich, "order 0," + n + "," + k, x -> x.order(0, n, place));
            }
        }
    }

    private static void promise16_whatIsNoStitcherIsBad() {
        for (int d : Due.outside(0, 1)) {
            for (int k = -1; k <= 3; k += 2) {
                int place = k;
                Due.bad(Due::rich, "order " + d + ",9," + k, x -> x.order(d, 9, place));
            }
        }
        Due.is("the fourth of three", four().order(3, 9, -1), BAD);
        Due.is("the third", four().order(2, 9, -1), 2);
    }

    private static void promise16_whatElseThanMinus1To3IsBad() {
        for (int k : Due.outside(-1, 3)) {
            Due.bad(Due::rich, "order 0,9," + k, x -> x.order(0, 9, k));
        }
    }

    private static void promise16_badIsAheadOfNone() {
        Due.is("there are not so many", Due.rich().order(0, 1, 2), NONE);
        Due.bad(Due::rich, "of no HOURS", x -> x.order(0, 0, 2));
        Due.bad(Due::rich, "of 25 HOURS", x -> x.order(0, 25, 2));
        Due.bad(Due::rich, "of no STITCHER", x -> x.order(2, 1, 2));
        Due.bad(Due::rich, "of STITCHER -1", x -> x.order(-1, 1, 2));
    }

    private static void promise16_aRowOfNone() {
        SeamMere x = Due.laid("g0,0,1,1,1;d0,0,1;");
        Due.row("too far", x, 0, 1, 0);
        Due.row("not too far", x, 0, 2, 2, 0);
        SeamMere never = Due.laid("g1,0,1,0,1;g3,0,1,0,1;d0,0,1;d2,0,1;");
        Due.row("LETTER alone", never, 0, 24, 1, 1);
        Due.row("neither", never, 1, 24, 0);
    }

    private static void promise16_aRowOfThreeIsTheLongest() {
        SeamMere x = Due.laid("g0,0,1,0,1;".repeat(8) + "d0,0,1;l24;");
        Due.row("2 HOURS", x, 0, 2, 2, 0, 1);
        Due.row("3 HOURS", x, 0, 3, 3, 0, 1, 2);
        Due.row("24 HOURS", x, 0, 24, 3, 0, 1, 2);
    }

    private static void promise16_notThoseThatAreClosedNow() {
        SeamMere x = Due.laid("g0,0,1,0,1;".repeat(8) + "d0,0,1;l24;");
        Due.sewAll(x, 0, 2, 3, 7);
        Due.row("four are left", x, 0, 24, 3, 1, 4, 5);
        Due.sewAll(x, 1, 4);
        Due.row("two are left", x, 0, 24, 2, 5, 6);
        Due.sewAll(x, 5);
        Due.row("one is left", x, 0, 24, 1, 6);
        Due.sewAll(x, 6);
        Due.row("none is left", x, 0, 24, 0);
        x.frog(4);
        Due.row("one is cut", x, 0, 24, 1, 4);
    }

    private static void promise16_behindNHoursOrSooner() {
        for (int n = 1; n <= 12; n++) {
            SeamMere x = four();
            if (n >= 6) {
                Due.row(n + " HOURS", x, 0, n, 6, 0, 1, 2);
            } else if (n >= 3) {
                Due.row(n + " HOURS", x, 0, n, 3, 0, 1);
            } else {
                Due.row(n + " HOURS", x, 0, n, 1, 0);
            }
        }
    }

    private static void promise16_mostIsAheadOfFewestHours() {
        SeamMere x = Due.laid("g0,0,1,0,2;g0,0,1,9,2;g0,0,1,9,2;d0,0,1;l24;");
        Due.row("11 HOURS", x, 0, 11, 11, 0, 1);
        Due.row("12 HOURS", x, 0, 12, 12, 0, 1, 2);
        Due.row("10 HOURS", x, 0, 10, 1, 0);
    }

    private static void promise16_fewestHoursAreAheadOfTheFirst() {
        SeamMere x = Due.laid("g0,0,1,9,2;g0,0,1,0,4;g0,0,1,0,2;d0,0,9;l24;");
        Due.row("one of three", x, 0, 2, 1, 2);
        Due.row("two of three", x, 0, 4, 3, 1, 2);
        Due.row("all", x, 0, 5, 5, 1, 2, 0);
        Due.row("all of 24", x, 0, 24, 5, 1, 2, 0);
    }

    private static void promise16_ofEqualOnesTheFirst() {
        SeamMere x = Due.laid("g0,0,1,0,4;g0,0,1,0,4;g0,0,1,0,2;g0,0,1,0,2;g0,0,1,0,2;d0,0,1;l24;");
        Due.row("by the first GAP", x, 0, 1, 1, 2);
        Due.row("by the next one", x, 0, 2, 2, 2, 3);
        Due.row("by the third", x, 0, 3, 3, 2, 3, 4);
        SeamMere all = Due.laid("g0,0,1,0,6;g0,0,1,0,4;g0,0,1,0,2;d0,0,1;l24;");
        Due.row("the lowest ahead, not the soonest", all, 0, 24, 6, 0, 1, 2);
        Due.row("two of them", all, 0, 5, 3, 1, 2);
    }

    private static void promise16_allOthersAreCalledOff() {
        SeamMere x = four();
        x.send(1, 0);
        x.send(2, 0);
        Due.row("0 alone", x, 0, 1, 1, 0);
        x.send(1, 3);
        Due.row("2 alone", x, 2, 7, 6, 0, 1);
        Due.row("not even 4 STITCHES", x, 2, 3, 2, 0);
        x.send(0, 3);
        Due.row("what it was SENT to is of no matter", x, 0, 3, 3, 0, 1);
        for (int d = 0; d < 3; d++) {
            SeamMere helped = four();
            helped.send((d + 1) % 3, 0);
            helped.send((d + 2) % 3, 3);
            for (int k = -1; k <= 3; k++) {
                Due.is("order of " + d + ", the others SENT", helped.order(d, 7, k), four().order(d, 7, k));
            }
        }
    }

    private static void promise16_itStartsWhereItIsAndWithWhatIsSewn() {
        SeamMere x = Due.laid("g0,0,1,9,4;g0,0,1,0,4;d0,0,1;l24;");
        x.send(0, 0);
        x.pass(5);
        Due.row("from 5 to 9", x, 0, 6, 6, 0);
        x.pass(5);
        Due.is("half sewn", x.gap(0, 5), 2);
        Due.row("one HOUR more", x, 0, 1, 1, 0);
        Due.row("then back", x, 0, 12, 12, 0, 1);
    }

    private static void promise16_nightAndRainCount() {
        SeamMere dark = Due.laid("g0,0,1,0,2;g0,0,1,0,2;d0,0,1;l1;");
        Due.row("24 HOURS", dark, 0, 24, 1, 0);
        dark.pass(1);
        Due.row("23 HOURS of night", dark, 0, 23, 0);
        Due.row("and one of light", dark, 0, 24, 24, 0);
        SeamMere wet = Due.laid("g0,0,1,0,4;g2,0,1,0,4;d0,0,1;l24;r1;");
        Due.row("1 a HOUR", wet, 0, 2, 0);
        Due.row("4 at last", wet, 0, 3, 3, 0);
        Due.row("never a WAKE", wet, 0, 24, 3, 0);
    }

    private static void promise16_itIsAskedAnew() {
        SeamMere x = four();
        Due.row("three", x, 0, 24, 6, 0, 1, 2);
        Due.row("one", x, 0, 1, 1, 0);
        Due.row("none", x, 2, 1, 0);
        Due.row("three of another", x, 1, 24, 4, 0, 1, 2);
        Due.sewAll(x, 0);
        x.send(1, 3);
        x.pass(2);
        Due.row("two are left", x, 0, 24, 5, 1, 2);
    }

    private static void promise16_nothingChanges() {
        for (int k = -1; k <= 3; k++) {
            int place = k;
            Due.only(Due::rich, "order", x -> x.order(1, 24, place));
        }
    }

    // ---- 17: deal

    private static SeamMere two() {
        return Due.laid("g0,0,1,0,2;g0,0,1,0,4;d0,0,1;d0,0,1;l24;");
    }

    private static void promise17_1To24HoursAreTaken() {
        Due.way("1 HOUR", two(), 1, 1, 0, 0);
        Due.way("2 HOURS", two(), 2, 2, 0, 1);
        Due.way("24 HOURS", two(), 24, 2, 0, 1);
        SeamMere slow = Due.laid("g0,0,1,24,1;g0,0,1,23,1;d0,0,1;l24;");
        Due.way("the 24th HOUR counts", slow, 24, 1, 1);
        Due.way("23 HOURS", slow, 23, 0, 0);
    }

    private static void promise17_otherHoursAreBad() {
        for (int n : Due.outside(1, 24)) {
            Due.bad(Due::rich, "deal " + n + ",-1", x -> x.deal(n, -1));
            Due.bad(Due::rich, "deal " + n + ",0", x -> x.deal(n, 0));
        }
    }

    private static void promise17_whatIsNoStitcherIsBad() {
        for (int d : Due.outside(-1, 1)) {
            Due.bad(Due::rich, "deal 9," + d, x -> x.deal(9, d));
        }
        SeamMere one = Due.laid("g0,0,1,0,1;d0,0,1;");
        Due.is("the first of one", one.deal(1, 0), 0);
        Due.is("the second of one", one.deal(1, 1), BAD);
        Due.is("the fourth of four", new SeamMere().deal(1, 3), 0);
        Due.is("the fifth of four", new SeamMere().deal(1, 4), BAD);
    }

    private static void promise17_badIsAheadOfNone() {
        Due.Maker closed = () -> {
            SeamMere x = Due.laid("g0,0,1,0,2;d0,0,1;");
            Due.sewAll(x, 0);
            return x;
        };
        Due.is("called off", closed.make().deal(1, 0), NONE);
        Due.bad(closed, "of no HOURS", x -> x.deal(0, 0));
        Due.bad(closed, "of 25 HOURS", x -> x.deal(25, 0));
        Due.bad(closed, "of no STITCHER", x -> x.deal(1, 1));
    }

    private static void promise17_thoseClosedNowCountToo() {
        SeamMere x = two();
        Due.sewAll(x, 0);
        Due.way("one is CLOSED now, one more then", x, 1, 2, 1, 1);
        x.send(0, 1);
        x.pass(2);
        Due.way("both are CLOSED now", x, 1, 2, NONE, NONE);
        SeamMere dark = Due.laid("g0,0,1,0,2;g0,0,1,0,4;d0,0,1;l1;");
        Due.sewAll(dark, 0);
        Due.way("one is CLOSED now, none by night", dark, 9, 1, 1);
    }

    private static void promise17_allAreClosed() {
        SeamMere x = Due.laid("g0,0,1,0,2;".repeat(8) + "d0,0,1;d1,0,1;d2,0,1;d3,0,1;l24;");
        Due.sewAll(x, 0, 1, 2, 3, 4, 5, 6, 7);
        Due.way("all eight", x, 1, 8, NONE, NONE, NONE, NONE);
        Due.way("in 24 HOURS", x, 24, 8, NONE, NONE, NONE, NONE);
        x.frog(7);
        Due.way("all but one", x, 1, 8, 7, 7, 7, 7);
        x.frog(5);
        Due.way("all but two", x, 1, 8, 5, 5, 7, 5);
    }

    private static void promise17_noneCanBeClosed() {
        SeamMere x = Due.laid("g1,0,1,0,1;g1,0,1,0,1;d0,0,1;d2,0,1;d3,0,1;");
        Due.way("all to the lowest GAP", x, 24, 0, 0, 0, 0);
        SeamMere dark = two();
        Due.write(dark, "g0,0,1,0,2;g0,0,1,0,4;d0,0,1;d0,0,1;l1;");
        dark.lay();
        dark.pass(1);
        Due.way("by night", dark, 23, 0, 0, 0);
        Due.way("in the morning", dark, 24, 1, 0, 0);
    }

    private static void promise17_ofEqualOnesTheFirst() {
        SeamMere x = Due.laid("g0,0,1,0,2;g0,0,1,0,2;g0,0,1,0,2;g0,0,1,0,2;g0,0,1,0,2;d0,0,1;d0,0,1;d0,0,1;d0,0,1;l24;");
        Due.way("by that of the lowest one", x, 1, 4, 0, 1, 2, 3);
        Due.sewAll(x, 1);
        Due.way("not to the CLOSED one", x, 1, 5, 0, 2, 3, 4);
        Due.sewAll(x, 4);
        Due.way("one too many", x, 1, 5, 0, 0, 2, 3);
        Due.sewAll(x, 0);
        Due.way("two too many", x, 1, 5, 2, 2, 2, 3);
    }

    private static void promise17_ofEqualOnesTheFirstNotTheFewest() {
        SeamMere x = Due.laid("g0,0,1,0,20;g0,0,1,0,4;g0,0,1,9,20;d2,0,1;d0,0,1;d0,0,1;l24;");
        Due.way("one HOUR", x, 1, 1, 0, 1, 1);
        Due.way("two HOURS", x, 2, 1, 0, 0, 1);
        SeamMere y = Due.laid("g0,0,1,9,1;g0,0,1,0,4;d0,0,1;d2,0,1;l24;");
        Due.way("the lowest goes where it is of no use", y, 1, 1, 0, 1);
    }

    private static void promise17_theLowestOneMayGoToAHigherGap() {
        SeamMere x = Due.laid("g1,0,1,0,4;g3,0,1,0,2;d0,0,1;d1,0,1;l24;");
        Due.way("the SCAR to RED, the LETTER to BLUE", x, 1, 2, 1, 0);
        SeamMere far = Due.laid("g0,0,1,0,4;g0,0,1,9,4;g0,0,1,20,4;g0,0,1,40,4;d2,40,1;d2,20,1;d2,9,1;d2,0,1;l24;");
        Due.way("each where it is", far, 1, 4, 3, 2, 1, 0);
    }

    private static void promise17_whatTheyAreSentToIsOfNoMatter() {
        SeamMere x = two();
        x.send(0, 1);
        x.send(1, 1);
        Due.way("1 HOUR", x, 1, 1, 0, 0);
        x.send(1, -1);
        Due.way("2 HOURS", x, 2, 2, 0, 1);
    }

    private static void promise17_severalAtOneGap() {
        SeamMere x = Due.laid("g0,0,1,9,9;g0,0,1,0,9;d0,0,1;d1,0,1;d2,0,1;d0,0,1;");
        Due.way("all four", x, 1, 1, 1, 1, 1, 1);
        Due.way("two HOURS", x, 2, 1, 0, 0, 1, 1);
        SeamMere wet = Due.laid("g2,0,1,0,6;g0,0,1,0,20;d0,0,1;d0,0,1;l24;r1;");
        Due.way("in rain together", wet, 2, 1, 0, 0);
    }

    private static void promise17_itStartsWhereTheyAreAndWithWhatIsSewn() {
        SeamMere x = Due.laid("g0,0,1,9,4;g0,0,1,0,20;d0,0,3;d3,0,1;l24;");
        x.send(0, 0);
        x.pass(3);
        Due.way("there", x, 2, 1, 0, 0);
        Due.way("an HOUR is too few", x, 1, 0, 0, 0);
        x.pass(1);
        Due.way("half sewn", x, 1, 1, 0, 0);
    }

    private static void promise17_itIsAskedAnew() {
        SeamMere x = two();
        Due.way("two", x, 2, 2, 0, 1);
        Due.way("one", x, 1, 1, 0, 0);
        x.send(0, 0);
        x.pass(1);
        Due.way("the other one", x, 1, 2, 1, 1);
        x.frog(0);
        Due.way("one again", x, 1, 1, 0, 0);
    }

    private static void promise17_nothingChanges() {
        for (int d = -1; d <= 1; d++) {
            int who = d;
            Due.only(Due::rich, "deal", x -> x.deal(24, who));
        }
    }
}
