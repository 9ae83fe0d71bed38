/** Promises 1 to 9: a new object, THE TEXT, what is laid and how it stands. */
public final class MeresTest {
    private static final int BAD = SeamMere.BAD, NO = SeamMere.NO, FULL = SeamMere.FULL, NONE = SeamMere.NONE;

    public static void main(String[] args) {
        Due.runAll(MeresTest.class);
    }

    private static void promise1NewObject() {
        SeamMere x = new SeamMere();
        int[][] gaps = {{0, 0, 1, 3, 4}, {0, 1, 2, 9, 6}, {1, 2, 3, 15, 3}, {2, 0, 3, 20, 5},
            {3, 3, 4, 26, 2}, {0, 4, 5, 33, 7}, {0, 1, 4, 12, 5}};
        int[][] stitchers = {{0, 0, 3}, {1, 18, 2}, {2, 30, 4}, {3, 10, 5}};
        int[] counts = {6, 7, 4, 0, 0, 0, 0, 6, 0, 0, 0, 0};
        for (int g = 0; g < gaps.length; g++) {
            for (int what = 0; what < 5; what++) {
                Due.is("new gap " + g + "," + what, x.gap(g, what), gaps[g][what]);
            }
            Due.is("new stitches " + g, x.gap(g, 5), 0);
            Due.is("new closed " + g, x.gap(g, 6), 0);
        }
        for (int d = 0; d < stitchers.length; d++) {
            for (int what = 0; what < 3; what++) {
                Due.is("new stitcher " + d + "," + what, x.stitcher(d, what), stitchers[d][what]);
            }
            Due.is("new goal " + d, x.stitcher(d, 3), NONE);
        }
        for (int what = 0; what < counts.length; what++) {
            Due.is("new count " + what, x.count(what), counts[what]);
        }
        for (int h = 0; h < 100; h++) {
            Due.is("new light " + h, x.sky(h, 0), h % 24 < 14 ? 1 : 0);
            Due.is("new rain " + h, x.sky(h, 1), h % 5 == 3 ? 1 : 0);
        }
        Due.is("new fault", x.fault(), NONE);
        Due.is("new lay", x.lay(), NO);
        Due.is("new undo", x.undo(), NO);
        Due.is("new back", x.back(), NO);
        Due.is("BAD", BAD, -1);
        Due.is("NO", NO, -2);
        Due.is("FULL", FULL, -3);
        Due.is("NONE", NONE, -4);
    }

    private static void promise2Write() {
        SeamMere x = new SeamMere();
        int[] wrong = {31, 127, 0, -1, 128, 300, Integer.MIN_VALUE, Integer.MAX_VALUE};
        for (int letter : wrong) {
            Due.is("write " + letter, x.write(letter), BAD);
        }
        Due.is("nothing written", x.count(11), 0);
        Due.is("write 32", x.write(32), 1);
        Due.is("write 126", x.write(126), 2);
        for (int i = 3; i <= 200; i++) {
            Due.is("write " + i, x.write('g'), i);
        }
        Due.is("write when full", x.write('g'), FULL);
        Due.is("BAD ahead of FULL", x.write(31), BAD);
        Due.is("still 200", x.count(11), 200);
        x.wipe();
        Due.is("write again", x.write('p'), 1);
    }

    private static void promise3Wipe() {
        SeamMere x = Due.laid("g0,0,1,0,1;d0,0,1;");
        x.send(0, 0);
        x.see(0, 1, 1);
        x.keep();
        Due.is("wipe", x.wipe(), 18);
        Due.is("wiped", x.count(11), 0);
        Due.is("wipe of none", x.wipe(), 0);
        int[] counts = {4, 1, 1, 0, 0, 0, 1, 4, 1, 1, 1, 0};
        for (int what = 0; what < counts.length; what++) {
            Due.is("count " + what + " when wiped", x.count(what), counts[what]);
        }
        Due.is("gap when wiped", x.gap(0, 4), 1);
        Due.is("lay when wiped", x.lay(), NO);
    }

    private static void faultOf(String text, int want) {
        Due.is("fault of " + text, Due.written(text).fault(), want);
    }

    private static void promise4Fault() {
        String[] good = {"", "p6;", "p1;", "p8;", "p08;", "p6;p7;", "g0,0,1,0,1;", "g3,3,0,40,20;", "g00,01,00,09,01;",
            "p5;g0,0,4,0,1;", "p2;p5;g0,0,4,0,1;", "d0,0,1;", "d3,40,9;", "d03,00,09;", "l1;", "l24;", "l1;l2;",
            "r0;", "r1;", "r01;", "d0,0,1;g0,0,1,0,1;r0;l3;d0,0,1;r1;l4;", "l05;",
            "r0;".repeat(12), "g0,0,1,0,1;".repeat(8), "d0,0,1;".repeat(4)};
        for (String text : good) {
            faultOf(text, NONE);
            faultOf(text + "x", text.length());
            faultOf(text + "r1;".substring(0, 2), text.length());
        }
        String[] bad = {"p0;", "p9;", "p10;", "p008;", "p;", "p", "p6", "p6,", "p4,4;", "q1;", " p1;", "P1;", "p-1;",
            "p 1;", "p1 ;", "p1.", ";", "1;", "g4,0,1,0,1;", "g0,0,0,0,1;", "g0,0,4,0,1;", "g0,4,0,0,1;", "g0,0,1,41,1;",
            "g0,0,1,0,0;", "g0,0,1,0,21;", "g0,0,1,0;", "g0,0,1,0,1,1;", "g0,0,1,0,1", "g0,0,,0,1;", "g0,0,1,0,001;",
            "g0,0,1,0,1,;", "g,0,1,0,1;", "d4,0,1;", "d0,41,1;", "d0,0,0;", "d0,0,10;", "d0,0;", "d0,0,1,1;", "d0,0,1,",
            "l0;", "l25;", "l;", "l1,1;", "l024;", "r2;", "r;", "r0,0;", "r,0;", "r0,;", "r10;", "r000;"};
        for (String text : bad) {
            faultOf(text, 0);
            faultOf("r0;" + text, 3);
            faultOf(text + "r0;", 0);
        }
        faultOf("l5;p6;", 3);
        faultOf("p6;r0;p6;", 6);
        faultOf("p5;p4;g0,0,4,0,1;", 6);
        faultOf("p1;g0,0,1,0,1;", 3);
        faultOf("r0;".repeat(13), 36);
        faultOf("g0,0,1,0,1;".repeat(9), 88);
        faultOf("d0,0,1;".repeat(5), 28);
        faultOf("r0;r2;r2;", 3);
        SeamMere x = Due.written("p3;x");
        String before = Story.now(x);
        x.fault();
        Due.same("fault", x, before);
    }

    private static void promise5Lay() {
        String[] not = {"", "p6;", "g0,0,1,0,1;", "d0,0,1;", "l5;r1;", "g0,0,1,0,1;d0,0,1;x", "g0,0,0,0,1;d0,0,1;"};
        for (String text : not) {
            SeamMere x = Due.written(text);
            x.send(0, 0);
            x.pass(3);
            x.see(0, 1, 1);
            x.keep();
            String before = Story.now(x);
            Due.is("lay of " + text, x.lay(), NO);
            Due.same("lay that may not be", x, before);
        }
        SeamMere x = Due.written("p3;g0,0,1,0,1;g1,1,2,7,9;d2,5,6;l3;r1;r0;");
        x.send(0, 0);
        x.pass(24);
        x.see(0, 1, 1);
        x.keep();
        Due.is("lay", x.lay(), 2);
        int[] counts = {3, 2, 1, 0, 0, 0, 0, 3, 0, 0, 0, 41};
        for (int what = 0; what < counts.length; what++) {
            Due.is("count " + what + " when laid", x.count(what), counts[what]);
        }
        Due.is("undo when laid", x.undo(), NO);
        Due.is("back when laid", x.back(), NO);
        Due.is("seamed when laid", x.seamed(0), 4);
        x.send(0, 0);
        x.pass(2);
        x.pass(1);
        Due.is("lay again", x.lay(), 2);
        Due.is("place anew", x.stitcher(0, 1), 5);
        Due.is("goal anew", x.stitcher(0, 3), NONE);
        Due.is("stitches anew", x.count(5), 0);
        Due.is("hour anew", x.count(3), 0);
        Due.is("pieces without p", Due.laid("g0,0,3,0,1;d0,0,1;").count(0), 4);
        Due.is("the last p counts", Due.laid("p2;p8;p7;g0,0,6,0,1;d0,0,1;").count(0), 7);
        SeamMere y = Due.laid("g0,0,1,0,1;d0,0,1;l20;l5;");
        Due.is("the last l counts", y.sky(5, 0), 0);
        Due.write(y, "g1,1,2,3,4;d1,2,3;");
        Due.is("lay another", y.lay(), 1);
        Due.is("12 hours light without l", y.sky(11, 0), 1);
        Due.is("not 13", y.sky(12, 0), 0);
        Due.is("another's gap", y.gap(0, 4), 4);
        Due.is("no rain without r", y.sky(0, 1), 0);
        Due.write(y, "p2;g0,0,1,9,9;g3,0,1,9,9;d3,9,9;l1;r1;x");
        String before = Story.now(y);
        Due.is("a fault behind another's items", y.fault(), 38);
        Due.is("no lay of them", y.lay(), NO);
        Due.same("a text that is not laid", y, before);
        Due.is("its gap is not laid", y.gap(0, 3), 3);
        Due.write(y, "p8;" + "g0,0,7,1,1;".repeat(8) + "d1,1,1;".repeat(4) + "l3;" + "r1;".repeat(12));
        Due.is("the most that can be", y.lay(), 8);
        Due.is("and again", y.lay(), 8);
        Due.is("and once more", y.lay(), 8);
        Due.write(y, "g0,0,3,1,1;d1,1,1;");
        Due.is("the least behind it", y.lay(), 1);
        Due.is("nothing of it stays", y.count(0) * 1000 + y.count(2) * 100 + y.sky(5, 0) * 10 + y.sky(0, 1), 4110);
    }

    private static void promise6Gap() {
        SeamMere x = Due.laid("p5;g3,4,2,40,20;g2,0,3,5,3;d0,5,1;");
        int[] first = {3, 4, 2, 40, 20, 0, 0};
        int[] second = {2, 0, 3, 5, 3, 3, 1};
        x.send(0, 1);
        x.pass(1);
        Due.is("two of three stitches", x.gap(1, 5), 2);
        Due.is("not closed", x.gap(1, 6), 0);
        x.pass(1);
        for (int what = 0; what < 7; what++) {
            Due.is("gap 0," + what, x.gap(0, what), first[what]);
            Due.is("gap 1," + what, x.gap(1, what), second[what]);
        }
        int[][] wrong = {{2, 0}, {-1, 0}, {0, 7}, {0, -1}, {8, 8}, {Integer.MIN_VALUE, 0}, {0, Integer.MAX_VALUE}};
        for (int[] w : wrong) {
            Due.is("gap " + w[0] + "," + w[1], x.gap(w[0], w[1]), BAD);
        }
    }

    private static void promise7Stitcher() {
        SeamMere x = Due.laid("g0,0,1,10,2;g0,0,1,0,2;d3,40,9;d1,7,4;");
        Due.is("kind", x.stitcher(0, 0), 3);
        Due.is("place", x.stitcher(0, 1), 40);
        Due.is("pace", x.stitcher(0, 2), 9);
        Due.is("sent to none", x.stitcher(0, 3), NONE);
        x.send(1, 1);
        Due.is("sent", x.stitcher(1, 3), 1);
        x.pass(1);
        Due.is("place now", x.stitcher(1, 1), 3);
        Due.is("place of the other", x.stitcher(0, 1), 40);
        int[][] wrong = {{2, 0}, {-1, 0}, {0, 4}, {0, -1}, {Integer.MAX_VALUE, 3}, {1, Integer.MIN_VALUE}};
        for (int[] w : wrong) {
            Due.is("stitcher " + w[0] + "," + w[1], x.stitcher(w[0], w[1]), BAD);
        }
    }

    private static void promise8Sky() {
        SeamMere x = Due.laid("g0,0,1,0,1;d0,0,1;l5;r1;r0;r0;r1;r1;r0;r0;");
        int[] rain = {1, 0, 0, 1, 1, 0, 0};
        for (int gone = 0; gone < 60; gone += 13) {
            for (int n = 0; n < 100; n += 3) {
                Due.is("light at " + gone + "+" + n, x.sky(n, 0), (gone + n) % 24 < 5 ? 1 : 0);
                Due.is("rain at " + gone + "+" + n, x.sky(n, 1), rain[(gone + n) % 7]);
            }
            x.pass(13);
        }
        Due.is("hour 99", x.sky(99, 0) >= 0 ? 1 : 0, 1);
        int[][] wrong = {{100, 0}, {-1, 0}, {0, 2}, {0, -1}, {Integer.MAX_VALUE, 0}, {Integer.MIN_VALUE, 1}};
        for (int[] w : wrong) {
            Due.is("sky " + w[0] + "," + w[1], x.sky(w[0], w[1]), BAD);
        }
        SeamMere y = Due.laid("g0,0,1,0,1;d0,0,1;l24;r1;");
        for (int n = 0; n < 100; n++) {
            Due.is("always light", y.sky(n, 0), 1);
            Due.is("always rain", y.sky(n, 1), 1);
        }
    }

    private static void promise9Together() {
        SeamMere x = Due.laid("p5;g0,0,1,0,1;g0,2,1,0,1;g0,2,3,0,1;d0,0,1;");
        for (int p = 0; p < 5; p++) {
            Due.is("each with itself", x.together(p, p), 1);
        }
        sew(x, 0);
        Due.is("by one seam", x.together(0, 1), 1);
        Due.is("not by two", x.together(0, 2), 0);
        sew(x, 2);
        Due.is("two heaps", x.together(1, 2), 0);
        sew(x, 1);
        Due.is("by three seams", x.together(0, 3), 1);
        Due.is("backwards", x.together(3, 0), 1);
        Due.is("the fifth", x.together(4, 0), 0);
        x.frog(1);
        Due.is("cut", x.together(0, 3), 0);
        int[][] wrong = {{5, 0}, {0, 5}, {-1, 0}, {0, -1}, {5, 5}, {Integer.MAX_VALUE, 0}, {0, Integer.MIN_VALUE}};
        for (int[] w : wrong) {
            Due.is("together " + w[0] + "," + w[1], x.together(w[0], w[1]), BAD);
        }
    }

    private static void sew(SeamMere x, int g) {
        x.send(0, g);
        x.pass(1);
        Due.is("sewn " + g, x.gap(g, 6), 1);
    }
}
