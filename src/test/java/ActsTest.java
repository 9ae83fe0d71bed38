/** Promises 10 to 13: sending, hours, frogs and what is undone. */
public final class ActsTest {
    private static final int BAD = SeamMere.BAD, NO = SeamMere.NO, NONE = SeamMere.NONE;

    public static void main(String[] args) {
        Due.runAll(ActsTest.class);
    }

    private static void promise10Send() {
        SeamMere x = Due.laid("g0,0,1,0,2;g0,0,1,5,2;g0,0,1,9,9;d0,0,1;d0,9,1;");
        Due.is("call off one not sent", x.send(0, -1), NO);
        Due.is("send", x.send(0, 0), NONE);
        Due.is("send so again", x.send(0, 0), NO);
        Due.is("send to another", x.send(0, 2), 0);
        Due.is("goal", x.stitcher(0, 3), 2);
        Due.is("two to one gap", x.send(1, 2), NONE);
        Due.is("call off", x.send(0, -1), 2);
        Due.is("goal when called off", x.stitcher(0, 3), NONE);
        Due.is("call off again", x.send(0, -1), NO);
        Due.is("the other's goal stays", x.stitcher(1, 3), 2);
        x.send(0, 0);
        x.pass(1);
        Due.is("closed", x.gap(0, 6), 1);
        Due.is("send to a closed gap", x.send(1, 0), NO);
        int[][] wrong = {{2, 0}, {-1, 0}, {0, 3}, {0, -2}, {2, -1}, {-1, -1}, {Integer.MAX_VALUE, 0}, {0, Integer.MIN_VALUE}};
        String before = Story.now(x);
        for (int[] w : wrong) {
            Due.is("send " + w[0] + "," + w[1], x.send(w[0], w[1]), BAD);
        }
        Due.is("BAD ahead of NO", x.send(9, 0), BAD);
        Due.same("refused sending", x, before);
    }

    private static void promise11Pass() {
        SeamMere x = new SeamMere();
        Due.is("1 hour", x.pass(1), 1);
        Due.is("24 hours", x.pass(24), 25);
        String before = Story.now(x);
        int[] wrong = {0, 25, -1, Integer.MAX_VALUE, Integer.MIN_VALUE};
        for (int n : wrong) {
            Due.is("pass " + n, x.pass(n), BAD);
        }
        Due.same("refused hours", x, before);
        Due.is("2 hours", x.pass(2), 27);
    }

    private static void places(SeamMere x, int d, int... due) {
        for (int place : due) {
            x.pass(1);
            Due.is("place of " + d + " in hour " + x.count(3), x.stitcher(d, 1), place);
        }
    }

    private static void promise11Flight() {
        SeamMere right = Due.laid("g0,0,1,7,4;d0,0,3;");
        places(right, 0, 0);
        right.send(0, 0);
        places(right, 0, 3, 6, 7);
        Due.is("none sewn in flight", right.gap(0, 5), 0);
        places(right, 0, 7);
        Due.is("sewn when there", right.gap(0, 5), 2);
        SeamMere left = Due.laid("g0,0,1,1,4;d0,10,4;");
        left.send(0, 0);
        places(left, 0, 6, 2, 1, 1);
        Due.is("sewn on the left", left.gap(0, 5), 2);
        SeamMere exact = Due.laid("g0,0,1,40,4;d0,31,9;");
        exact.send(0, 0);
        places(exact, 0, 40);
        Due.is("flown, not sewn", exact.gap(0, 5), 0);
        SeamMere dark = Due.laid("g0,0,1,9,4;d0,0,3;l2;");
        dark.send(0, 0);
        places(dark, 0, 3, 6, 6, 6);
        dark.pass(20);
        Due.is("the night through", dark.stitcher(0, 1), 6);
        places(dark, 0, 9, 9, 9);
        Due.is("sewn on the second day", dark.gap(0, 5), 2);
        SeamMere off = Due.laid("g0,0,1,9,4;d0,0,3;");
        off.send(0, 0);
        places(off, 0, 3);
        off.send(0, -1);
        places(off, 0, 3);
    }

    private static int sewnBy(int kind, int gapKind, int width) {
        if (gapKind == 1) {
            return kind == 1 ? 4 : 0;
        }
        int[] usual = {2, 1, gapKind == 3 ? 0 : 4, width > 6 ? 0 : 1};
        return usual[kind];
    }

    private static void promise11Sewing() {
        int[] widths = {1, 2, 3, 4, 5, 6, 7, 20};
        for (int kind = 0; kind < 4; kind++) {
            for (int gapKind = 0; gapKind < 4; gapKind++) {
                for (int width : widths) {
                    SeamMere x = Due.laid("g" + gapKind + ",0,1,5," + width + ";d" + kind + ",5,1;");
                    x.send(0, 0);
                    x.pass(1);
                    int due = Math.min(width, sewnBy(kind, gapKind, width));
                    String what = "stitcher " + kind + " at gap " + gapKind + " of width " + width;
                    Due.is(what, x.gap(0, 5), due);
                    Due.is(what + " closed", x.gap(0, 6), due == width ? 1 : 0);
                    Due.is(what + " sent", x.stitcher(0, 3), due == width ? NONE : 0);
                }
            }
        }
        SeamMere two = Due.laid("g0,0,1,5,20;d0,5,1;d2,5,1;");
        two.send(0, 0);
        two.send(1, 0);
        two.pass(3);
        Due.is("two at one gap", two.gap(0, 5), 18);
    }

    private static void promise11Closing() {
        SeamMere later = Due.laid("g0,0,1,0,2;g0,0,1,9,9;d0,0,1;d1,5,2;d1,5,2;");
        later.send(0, 0);
        later.send(1, 0);
        later.send(2, 1);
        later.pass(1);
        Due.is("called off at once", later.stitcher(1, 3), NONE);
        Due.is("so not flown", later.stitcher(1, 1), 5);
        Due.is("one sent elsewhere stays", later.stitcher(2, 3), 1);
        Due.is("and flies", later.stitcher(2, 1), 7);
        SeamMere ahead = Due.laid("g0,0,1,0,2;d1,5,2;d0,0,1;");
        ahead.send(0, 0);
        ahead.send(1, 0);
        ahead.pass(1);
        Due.is("flown ahead of it", ahead.stitcher(0, 1), 3);
        Due.is("called off then", ahead.stitcher(0, 3), NONE);
        Due.is("none is sent", ahead.count(6), 0);
        SeamMere full = Due.laid("g0,0,1,0,3;d2,0,1;d2,0,1;");
        full.send(0, 0);
        full.send(1, 0);
        full.pass(1);
        Due.is("no more than the width", full.gap(0, 5), 3);
    }

    private static void promise11Rain() {
        SeamMere x = Due.laid("g0,0,1,0,4;d0,0,1;r1;");
        int[] due = {1, 2, 4, 4, 4};
        x.send(0, 0);
        for (int stitches : due) {
            x.pass(1);
            Due.is("in rain, hour " + x.count(3), x.gap(0, 5), stitches);
        }
        SeamMere wake = Due.laid("g2,0,1,0,10;g2,0,1,0,7;d2,0,1;d3,0,1;r1;");
        int[] wakes = {2, 4, 6, 10, 10};
        wake.send(0, 0);
        wake.send(1, 1);
        for (int stitches : wakes) {
            wake.pass(1);
            Due.is("WAKE in rain, hour " + wake.count(3), wake.gap(0, 5), stitches);
            Due.is("WAKE in rain, none sewn", wake.gap(1, 5), 0);
        }
        SeamMere odd = Due.laid("g2,0,1,0,9;g0,0,1,0,9;d1,0,1;d0,0,1;l3;r0;r0;r0;r0;r1;");
        odd.send(0, 0);
        odd.send(1, 1);
        odd.pass(4);
        Due.is("ahead of the rain", odd.gap(0, 5), 3);
        Due.is("PLAIN ahead of it", odd.gap(1, 5), 6);
        odd.pass(1);
        Due.is("rain by night", odd.gap(0, 5), 1);
        Due.is("PLAIN by night", odd.gap(1, 5), 5);
        odd.pass(5);
        Due.is("0 at least", odd.gap(0, 5), 0);
        Due.is("PLAIN, rain again", odd.gap(1, 5), 4);
        SeamMere alone = Due.laid("g0,0,1,0,9;d0,0,1;r0;r1;");
        alone.send(0, 0);
        alone.pass(1);
        alone.send(0, -1);
        Due.is("rain at none sent", alone.pass(1), 2);
        Due.is("its stitches", alone.gap(0, 5), 1);
    }

    private static void promise12Frog() {
        SeamMere x = Due.laid("g0,0,1,0,2;g0,0,1,0,2;d0,0,1;");
        Due.is("frog at an open gap", x.frog(0), NO);
        x.send(0, 0);
        x.pass(1);
        x.send(0, 1);
        x.pass(1);
        String before = Story.now(x);
        int[] wrong = {2, -1, 8, Integer.MAX_VALUE, Integer.MIN_VALUE};
        for (int g : wrong) {
            Due.is("frog " + g, x.frog(g), BAD);
        }
        Due.same("refused frogs", x, before);
        Due.is("frog", x.frog(0), 1);
        Due.is("no stitches", x.gap(0, 5), 0);
        Due.is("frog again", x.frog(0), NO);
        Due.is("the other", x.frog(1), 0);
        Due.is("nobody is sent by it", x.count(6), 0);
        Due.is("send again", x.send(0, 0), NONE);
        x.pass(1);
        Due.is("sewn again", x.gap(0, 6), 1);
    }

    private static void promise13Undo() {
        SeamMere x = Due.laid("g0,0,1,4,2;d0,0,2;r0;r0;r0;r0;r1;");
        Due.is("nothing to undo", x.undo(), NO);
        x.send(0, 0);
        x.pass(3);
        x.see(0, 1, 1);
        x.keep();
        x.write('p');
        x.frog(0);
        Due.is("three", x.count(9), 3);
        Due.is("undo the frog", x.undo(), 2);
        Due.is("closed again", x.gap(0, 6), 1);
        Due.is("undo all hours", x.undo(), 1);
        Due.is("hour", x.count(3), 0);
        Due.is("stitches", x.gap(0, 5), 0);
        Due.is("place", x.stitcher(0, 1), 0);
        Due.is("goal", x.stitcher(0, 3), 0);
        Due.is("undo sending", x.undo(), 0);
        Due.is("goal of none", x.stitcher(0, 3), NONE);
        Due.is("no more", x.undo(), NO);
        Due.is("SEEN stays", x.count(8), 1);
        Due.is("KEPT stays", x.count(10), 1);
        Due.is("THE TEXT stays", x.count(11), 34);
        x.send(0, 5);
        x.send(0, -1);
        x.frog(0);
        x.pass(0);
        Due.is("what is refused is not undone", x.undo(), NO);
        x.send(0, 0);
        x.send(0, -1);
        Due.is("undo calling off", x.undo(), 1);
        Due.is("sent again", x.stitcher(0, 3), 0);
    }

    private static void promise13LastEight() {
        SeamMere x = new SeamMere();
        for (int i = 1; i <= 11; i++) {
            x.pass(i);
            Due.is("can be undone", x.count(9), Math.min(i, 8));
        }
        int hours = 66;
        for (int i = 11; i >= 4; i--) {
            Due.is("undo hours " + i, x.undo(), i - 4);
            hours -= i;
            Due.is("hours then", x.count(3), hours);
        }
        Due.is("the ninth", x.undo(), NO);
        Due.is("hours at last", x.count(3), 6);
        for (int i = 0; i < 5; i++) {
            x.pass(2);
        }
        x.undo();
        x.undo();
        x.pass(7);
        Due.is("undo and on", x.undo(), 3);
        Due.is("hours of both", x.count(3), 12);
    }
}
