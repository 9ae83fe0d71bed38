/** Promises 18 to 20, a test for each boundary that the document names: CUT, BETWEEN and JOINS. */
public final class SeamEdgesTest {
    private static final int NONE = SeamMere.NONE, BAD = SeamMere.BAD;
    private static final String PATH = "p8;g0,0,1,0,2;g0,2,1,0,2;g0,2,3,0,2;g0,4,3,0,2;g0,4,5,0,2;g0,6,5,0,2;g0,6,7,0,2;";
    private static final String BLUE = "d0,0,1;l24;";

    public static void main(String[] args) {
        Due.runAll(SeamEdgesTest.class);
    }

    private static SeamMere sewn(String text, int... gaps) {
        SeamMere x = Due.laid(text);
        Due.sewAll(x, gaps);
        return x;
    }

    /** Eight pieces in a ring: gap g from piece g to the next one. */
    private static SeamMere ring(int... gaps) {
        return sewn("p8;g0,0,1,0,2;g0,1,2,0,2;g0,2,3,0,2;g0,3,4,0,2;g0,4,5,0,2;g0,5,6,0,2;g0,6,7,0,2;g0,7,0,0,2;" + BLUE, gaps);
    }

    // ---- 18: cut

    private static void promise18_noneIfTheyDoNotHangTogether() {
        SeamMere none = ring();
        SeamMere some = ring(0, 1, 3);
        Due.is("no SEAM at all", none.cut(0, 1), NONE);
        Due.is("and the last two", none.cut(6, 7), NONE);
        Due.is("2 and 3", some.cut(2, 3), NONE);
        Due.is("0 and 4", some.cut(0, 4), NONE);
        Due.is("7 and 0", some.cut(7, 0), NONE);
        Due.is("0 and 2 do", some.cut(0, 2), 1);
    }

    private static void promise18_aGapOneStitchShortIsNoSeam() {
        SeamMere x = Due.laid("g0,0,1,0,3;d1,0,1;");
        x.send(0, 0);
        x.pass(2);
        Due.is("two of three", x.cut(0, 1), NONE);
        x.pass(1);
        Due.is("CLOSED", x.cut(0, 1), 1);
        x.frog(0);
        Due.is("cut", x.cut(0, 1), NONE);
    }

    private static void promise18_alikeIsBad() {
        for (int p = 0; p < 8; p++) {
            Due.is("alone " + p, ring().cut(p, p), BAD);
            Due.is("in a ring " + p, ring(0, 1, 2, 3, 4, 5, 6, 7).cut(p, p), BAD);
        }
        Due.bad(Due::rich, "cut 0,0", x -> x.cut(0, 0));
        Due.bad(Due::rich, "cut 4,4", x -> x.cut(4, 4));
    }

    private static void promise18_whatIsNoPieceIsBad() {
        for (int p : Due.outside(0, 4)) {
            Due.bad(Due::rich, "cut " + p + ",0", x -> x.cut(p, 0));
            Due.bad(Due::rich, "cut 0," + p, x -> x.cut(0, p));
            Due.bad(Due::rich, "cut 4," + p, x -> x.cut(4, p));
            Due.bad(Due::rich, "cut " + p + "," + p, x -> x.cut(p, p));
        }
        SeamMere x = sewn("g0,0,3,0,2;" + BLUE, 0);
        Due.is("the fourth of four", x.cut(3, 0), 1);
        Due.is("the fifth of four", x.cut(4, 0), BAD);
        Due.is("the ninth of eight", ring(0).cut(0, 8), BAD);
    }

    private static void promise18_eachSeamAlone() {
        for (int g = 0; g < 8; g++) {
            SeamMere x = ring(g);
            Due.is("SEAM " + g, x.cut(g, (g + 1) % 8), 1 << g);
            Due.is("SEAM " + g + " back", x.cut((g + 1) % 8, g), 1 << g);
        }
    }

    private static void promise18_allEightSeams() {
        SeamMere x = sewn("p2;" + "g0,0,1,0,2;g0,1,0,0,2;".repeat(4) + BLUE, 0, 1, 2, 3, 4, 5, 6, 7);
        Due.is("all", x.cut(0, 1), 255);
        x.frog(3);
        Due.is("all but one", x.cut(1, 0), 247);
    }

    private static void promise18_fewestNotLowest() {
        SeamMere x = sewn("p3;g0,0,1,0,2;g0,0,1,0,2;g0,0,1,0,2;g0,1,2,0,2;" + BLUE, 0, 1, 2, 3);
        Due.is("the one behind three", x.cut(0, 2), 8);
        Due.is("the three", x.cut(0, 1), 7);
        SeamMere y = sewn("p4;g0,0,1,0,2;g0,0,1,0,2;g0,0,2,0,2;g0,1,3,0,2;g0,2,3,0,2;" + BLUE, 0, 1, 2, 3, 4);
        Due.is("two of five", y.cut(0, 3), 12);
        Due.is("three of five", y.cut(0, 1), 7);
    }

    private static void promise18_ofSeveralTheLowestAsBits() {
        SeamMere x = ring(0, 1, 2, 3, 4, 5, 6);
        Due.is("of a row the first", x.cut(0, 7), 1);
        Due.is("from 3 on", x.cut(7, 3), 8);
        SeamMere y = ring(0, 1, 2, 3, 4, 5, 6, 7);
        Due.is("0 and 1", y.cut(0, 1), 3);
        Due.is("0 and 4", y.cut(0, 4), 17);
        Due.is("1 and 2", y.cut(2, 1), 3);
        Due.is("7 and 0", y.cut(7, 0), 129);
        Due.is("6 and 7", y.cut(6, 7), 65);
        SeamMere z = sewn("p3;g0,1,2,0,2;g0,0,1,0,2;g0,1,2,0,2;g0,0,1,0,2;" + BLUE, 0, 1, 2, 3);
        Due.is("5 is lower than 10", z.cut(0, 2), 5);
    }

    private static void promise18_onlySeamsAreInTheSet() {
        SeamMere x = sewn(PATH + "g0,0,7,0,2;" + BLUE, 6, 4);
        Due.is("6 and 7", x.cut(7, 6), 64);
        Due.is("4 and 5", x.cut(4, 5), 16);
        x.send(0, 5);
        x.pass(1);
        Due.is("4 and 7", x.cut(4, 7), 16);
        Due.is("5 and 7", x.cut(7, 5), 32);
    }

    private static void promise18_nothingChanges() {
        Due.only(Due::rich, "cut", x -> x.cut(0, 1));
        Due.only(Due::rich, "cut of none", x -> x.cut(0, 4));
    }

    // ---- 19: between

    private static void promise19_0IfAlike() {
        for (int p = 0; p < 8; p++) {
            Due.is("alone " + p, ring().between(p, p), 0);
            Due.is("in a ring " + p, ring(0, 1, 2, 3, 4, 5, 6, 7).between(p, p), 0);
        }
    }

    private static void promise19_noneIfTheyDoNotHangTogether() {
        SeamMere x = ring(0, 1, 3);
        Due.is("no SEAM at all", ring().between(0, 1), NONE);
        Due.is("2 and 3", x.between(2, 3), NONE);
        Due.is("4 and 0", x.between(4, 0), NONE);
        Due.is("6 and 7", x.between(6, 7), NONE);
    }

    private static void promise19_whatIsNoPieceIsBad() {
        for (int p : Due.outside(0, 4)) {
            Due.bad(Due::rich, "between " + p + ",0", x -> x.between(p, 0));
            Due.bad(Due::rich, "between 0," + p, x -> x.between(0, p));
            Due.bad(Due::rich, "between 4," + p, x -> x.between(4, p));
            Due.bad(Due::rich, "between " + p + "," + p, x -> x.between(p, p));
        }
        Due.is("the fourth of four", Due.laid("g0,0,3,0,2;" + BLUE).between(3, 3), 0);
        Due.is("the fifth of four", Due.laid("g0,0,3,0,2;" + BLUE).between(4, 4), BAD);
        Due.is("the ninth of eight", ring().between(8, 8), BAD);
    }

    private static void promise19_from1To7Seams() {
        SeamMere x = sewn(PATH + BLUE, 0, 1, 2, 3, 4, 5, 6);
        for (int a = 0; a < 8; a++) {
            for (int b = 0; b < 8; b++) {
                Due.is(a + " to " + b, x.between(a, b), Math.abs(a - b));
            }
        }
    }

    private static void promise19_fewestOfTwoRows() {
        SeamMere x = ring(0, 1, 2, 3, 4, 5, 6, 7);
        for (int a = 0; a < 8; a++) {
            for (int b = 0; b < 8; b++) {
                int way = Math.abs(a - b);
                Due.is(a + " to " + b, x.between(a, b), Math.min(way, 8 - way));
            }
        }
        x.frog(7);
        Due.is("the long way alone", x.between(0, 7), 7);
        x.frog(3);
        Due.is("no way", x.between(0, 7), NONE);
    }

    private static void promise19_severalSeamsOfOnePairAreOneStep() {
        SeamMere x = sewn("p3;g0,0,1,0,2;g0,0,1,0,2;g0,1,2,0,2;" + BLUE, 0, 1, 2);
        Due.is("0 and 1", x.between(0, 1), 1);
        Due.is("0 and 2", x.between(0, 2), 2);
        x.frog(0);
        Due.is("by the other one", x.between(1, 0), 1);
    }

    private static void promise19_nothingChanges() {
        Due.only(Due::rich, "between", x -> x.between(0, 1));
        Due.only(Due::rich, "between of none", x -> x.between(0, 4));
    }

    // ---- 20: joins

    private static void joins(String what, SeamMere x, int which, int many) {
        Due.is(what + ": which", x.joins(0), which);
        Due.is(what + ": how many", x.joins(1), many);
    }

    private static void promise20_noneIfAllAreClosed() {
        joins("one GAP", sewn("g0,0,1,0,2;" + BLUE, 0), NONE, NONE);
        SeamMere x = ring(0, 1, 2, 3, 4, 5, 6, 7);
        joins("eight GAPS", x, NONE, NONE);
        x.frog(6);
        joins("one is cut", x, 6, 0);
    }

    private static void promise20_0IfNoneWouldComeToHangTogether() {
        joins("the last of a ring", ring(0, 1, 2, 3, 4, 5, 6), 7, 0);
        joins("the first of a ring", ring(1, 2, 3, 4, 5, 6, 7), 0, 0);
        joins("of two such the lowest", sewn("g0,0,1,0,2;g0,0,1,0,2;g0,0,1,0,2;" + BLUE, 1), 0, 0);
    }

    private static void promise20_1IfBothAreAlone() {
        joins("of eight such the lowest", ring(), 0, 1);
        joins("one GAP", Due.laid("g0,3,2,0,2;" + BLUE), 0, 1);
    }

    private static void promise20_mostPairs() {
        joins("1 and 2", ring(0), 1, 2);
        joins("2 and 2", ring(0, 2), 1, 4);
        joins("4 and 4", ring(0, 1, 2, 4, 5, 6), 3, 16);
        joins("3 and 5", ring(0, 1, 3, 4, 5, 6), 2, 15);
        joins("7 and 1", ring(0, 1, 2, 3, 4, 5), 6, 7);
        joins("3 and 3", ring(0, 1, 5, 6), 7, 9);
    }

    private static void promise20_ofSeveralTheLowest() {
        joins("1, 3, 7 and more", ring(0, 2, 4), 1, 4);
        joins("1 and 7", ring(0), 1, 2);
        joins("3 and 7", ring(0, 1, 2, 4, 5, 6), 3, 16);
        joins("one pair twice", Due.laid("g0,0,1,0,2;g0,2,3,0,2;g0,3,2,0,2;" + BLUE), 0, 1);
    }

    private static void promise20_aGapOneStitchShortIsNotClosed() {
        SeamMere x = Due.laid("g0,0,1,0,3;d1,0,1;");
        x.send(0, 0);
        x.pass(2);
        joins("two of three", x, 0, 1);
        x.pass(1);
        joins("CLOSED", x, NONE, NONE);
        x.frog(0);
        joins("cut", x, 0, 1);
    }

    private static void promise20_whatElseThan0And1IsBad() {
        for (int what : Due.outside(0, 1)) {
            Due.bad(Due::rich, "joins " + what, x -> x.joins(what));
            Due.bad(Due::full, "BAD is ahead of NONE, joins " + what, x -> x.joins(what));
        }
        joins("all CLOSED", Due.full(), NONE, NONE);
    }

    private static void promise20_nothingChanges() {
        Due.only(Due::rich, "joins which", x -> x.joins(0));
        Due.only(Due::rich, "joins how many", x -> x.joins(1));
    }
}
