/** Promises 25 to 29: showers, summers, meres kept, and counts. */
public final class SummersTest {
    private static final int BAD = SeamMere.BAD, NO = SeamMere.NO, FULL = SeamMere.FULL, NONE = SeamMere.NONE;

    public static void main(String[] args) {
        Due.runAll(SummersTest.class);
    }

    private static void promise25Showers() {
        SeamMere x = Due.laid("g0,0,1,0,4;g2,0,1,0,8;g0,0,1,9,1;d0,0,1;d2,0,1;r1;");
        x.send(0, 0);
        x.send(1, 1);
        String before = Story.now(x);
        Due.chance("no hour", x, 0, 0, 3, 0, 1);
        Due.chance("one hour", x, 0, 1, 3, 0, 1);
        // Closed behind 2 hours if the first is dry; behind 3 in any case.
        Due.chance("3 of ten", x, 0, 2, 3, 7, 10);
        Due.chance("5 of ten", x, 0, 2, 5, 1, 2);
        Due.chance("whatever was told", x, 0, 2, 0, 1, 1);
        Due.chance("always rain", x, 0, 2, 10, 0, 1);
        Due.chance("3 hours", x, 0, 3, 5, 1, 1);
        Due.chance("WAKE", x, 1, 2, 4, 3, 5);
        Due.chance("WAKE in 3 hours", x, 1, 3, 10, 1, 1);
        Due.chance("nobody sent", x, 2, 8, 0, 0, 1);
        Due.same("showers", x, before);
        x.pass(3);
        Due.chance("closed now", x, 0, 0, 5, 1, 1);
        SeamMere dark = Due.laid("g0,0,1,0,4;d0,0,1;l1;");
        dark.send(0, 0);
        Due.chance("by night", dark, 0, 8, 0, 0, 1);
        SeamMere two = Due.laid("g0,0,1,0,7;d2,0,1;d1,0,1;");
        two.send(0, 0);
        two.send(1, 0);
        // 5 in the first hour, 4 if it rains then: 7 behind the second in any case.
        Due.chance("two at it", two, 0, 2, 9, 1, 1);
    }

    private static void promise25Edges() {
        SeamMere long8 = Due.laid("g0,0,1,0,16;g0,0,1,0,15;d0,0,1;d0,0,1;");
        long8.send(0, 0);
        long8.send(1, 1);
        // All of the first 7 hours must be dry; of 15 stitches one may be lost: 0.9^7 + 7 * 0.9^6 * 0.1.
        Due.chance("seven dry hours", long8, 0, 8, 1, 4782969, 10000000);
        Due.chance("one of seven wet", long8, 1, 8, 1, 531441, 625000);
        SeamMere last = Due.laid("g0,0,1,1,14;d0,0,1;r1;");
        last.send(0, 0);
        Due.chance("an hour's flight, six dry ones", last, 0, 8, 2, 4096, 15625);
        int[][] wrong = {{2, 0, 0, 0}, {-1, 0, 0, 0}, {0, 9, 0, 0}, {0, -1, 0, 0}, {0, 0, 11, 0}, {0, 0, -1, 0}, {0, 0, 0, 2},
            {0, 0, 0, -1}, {Integer.MAX_VALUE, 0, 0, 0}, {0, Integer.MAX_VALUE, 0, 0}, {0, 0, Integer.MIN_VALUE, 0}};
        for (int[] w : wrong) {
            Due.is("showers " + java.util.Arrays.toString(w), long8.showers(w[0], w[1], w[2], w[3]), BAD);
        }
    }

    private static void promise26Summer() {
        SeamMere x = Due.laid("g0,0,1,0,2;d0,0,1;l24;");
        String before = Story.now(x);
        // First draws: z 0: 1 (sends), 2: 59533 (5, nothing), 15: 35404 (4, a frog).
        Due.is("sent", x.summer(0, 1, 0), 1);
        Due.is("its stitches", x.summer(0, 1, 1), 2);
        Due.is("nothing drawn", x.summer(2, 1, 1), 0);
        Due.is("a frog at an open gap", x.summer(15, 1, 1), 0);
        // z 9999: 51303 (7), 32612 (4), 6768 (0): sent in the third hour.
        Due.is("two hours by 9999", x.summer(9999, 2, 0), 0);
        Due.is("three hours by 9999", x.summer(9999, 3, 0), 1);
        Due.same("summer", x, before);
        x.send(0, 0);
        Due.is("one sent already", x.summer(2, 1, 0), 1);
        x.pass(1);
        Due.is("a frog", x.summer(15, 1, 0), 0);
        Due.is("its gap has none", x.summer(15, 1, 1), 0);
        Due.is("a closed gap", x.summer(0, 1, 0), 1);
        int[][] wrong = {{-1, 1, 0}, {10000, 1, 0}, {0, 0, 0}, {0, 61, 0}, {0, 1, 2}, {0, 1, -1}, {Integer.MAX_VALUE, 1, 0},
            {0, Integer.MIN_VALUE, 0}, {0, 1, Integer.MAX_VALUE}};
        for (int[] w : wrong) {
            Due.is("summer " + w[0] + "," + w[1] + "," + w[2], x.summer(w[0], w[1], w[2]), BAD);
        }
        SeamMere first = new SeamMere();
        Due.is("first mere by 5: CLOSED", first.summer(5, 60, 0), 4);
        Due.is("first mere by 5: STITCHES", first.summer(5, 60, 1), 18);
    }

    private static void promise26Draws() {
        SeamMere x = Due.laid("g0,0,1,0,2;g1,0,1,0,4;g3,0,1,0,9;d0,0,1;d1,0,1;l24;");
        // z, STITCHER, GAP of the first draw; CLOSED and STITCHES due.
        int[][] draws = {{1, 0, 2, 0, 2}, {8, 1, 0, 0, 1}, {31, 1, 1, 1, 4}, {7, 0, 0, 1, 2}, {9, 1, 2, 0, 1}, {15, 0, 0, 0, 0}};
        for (int[] w : draws) {
            Due.is("CLOSED by " + w[0], x.summer(w[0], 1, 0), w[3]);
            Due.is("STITCHES by " + w[0], x.summer(w[0], 1, 1), w[4]);
        }
        x.send(0, 0);
        x.pass(1);
        x.send(0, 2);
        Due.is("a frog at gap 0", x.summer(39, 1, 0), 0);
        Due.is("the others sew on", x.summer(39, 1, 1), 2);
        Due.is("not sent to the closed one", x.summer(7, 1, 1), 4);
        SeamMere rain = Due.laid("g0,0,1,0,4;d0,0,1;r1;");
        Due.is("it rains as told", rain.summer(0, 1, 1), 1);
        SeamMere dark = Due.laid("g0,0,1,0,4;d0,0,1;l1;");
        dark.pass(1);
        Due.is("it is dark as told", dark.summer(0, 1, 1), 0);
    }

    private static void promise27Keep() {
        SeamMere x = new SeamMere();
        Due.is("keep", x.keep(), 1);
        Due.is("keep two", x.keep(), 2);
        String before = Story.now(x);
        Due.is("keep three", x.keep(), FULL);
        Due.same("keep that may not be", x, before);
        Due.is("back", x.back(), 1);
        Due.is("keep again", x.keep(), 2);
    }

    private static void promise28Back() {
        SeamMere x = Due.laid("g0,0,1,3,2;g0,2,3,0,9;d0,0,2;d1,0,1;l24;r0;r0;r0;r1;");
        Due.is("nothing kept", x.back(), NO);
        x.send(0, 0);
        x.send(1, 1);
        x.pass(2);
        x.keep();
        String kept = states(x);
        x.pass(5);
        x.frog(0);
        x.see(0, 1, 1);
        x.write('g');
        x.send(1, -1);
        x.keep();
        String later = states(x);
        x.pass(9);
        x.send(0, 1);
        Due.is("back to the latest", x.back(), 1);
        sameState("as kept last", states(x), later);
        Due.is("nothing is undone then", x.undo(), NO);
        x.pass(1);
        Due.is("but what comes behind", x.undo(), 0);
        x.pass(1);
        Due.is("back to the first", x.back(), 0);
        sameState("as kept first", states(x), kept);
        Due.is("undone none", x.count(9), 0);
        Due.is("SEEN stays", x.count(8), 1);
        Due.is("THE TEXT stays", x.count(11), 53);
        Due.is("goes on", x.pass(1), 3);
        Due.is("as it did", x.gap(0, 6), 1);
        Due.is("kept no more", x.back(), NO);
        Due.is("keep anew", x.keep(), 1);
    }

    private static String states(SeamMere x) {
        StringBuilder b = new StringBuilder();
        for (int g = 0; g < 2; g++) {
            b.append(x.gap(g, 5)).append(' ');
        }
        for (int d = 0; d < 2; d++) {
            b.append(x.stitcher(d, 1)).append(' ').append(x.stitcher(d, 3)).append(' ');
        }
        return b.append(x.count(3)).toString();
    }

    private static void sameState(String what, String got, String want) {
        Due.is(what + " (" + got + ", due is " + want + ")", got.equals(want) ? 1 : 0, 1);
    }

    private static void promise29Count() {
        SeamMere x = Due.laid("p5;g0,0,1,0,2;g0,1,2,0,4;g0,3,4,9,9;d0,0,1;d0,0,1;d3,9,1;");
        x.send(0, 0);
        x.send(1, 1);
        x.send(2, 2);
        x.pass(1);
        x.see(0, 1, 1);
        x.keep();
        x.see(1, 2, 0);
        x.keep();
        int[] counts = {5, 3, 3, 1, 1, 4, 2, 4, 2, 4, 2, 57};
        for (int what = 0; what < counts.length; what++) {
            Due.is("count " + what, x.count(what), counts[what]);
        }
        x.pass(1);
        Due.is("heaps", x.count(7), 3);
        Due.is("STITCHES of all", x.count(5), 6);
        x.frog(0);
        Due.is("heaps again", x.count(7), 4);
        Due.is("CLOSED again", x.count(4), 1);
        int[] wrong = {12, -1, Integer.MAX_VALUE, Integer.MIN_VALUE};
        for (int what : wrong) {
            Due.is("count " + what, x.count(what), BAD);
        }
        Due.is("NONE is not a count", x.count(6) == NONE ? 1 : 0, 0);
    }
}
