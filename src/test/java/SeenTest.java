/** Promises 21 to 24: what was seen, and which gaps were closed by it. */
public final class SeenTest {
    private static final int BAD = SeamMere.BAD, FULL = SeamMere.FULL, NONE = SeamMere.NONE;

    public static void main(String[] args) {
        Due.runAll(SeenTest.class);
    }

    private static void promise21See() {
        SeamMere x = Due.laid("p3;g0,0,1,0,1;g0,1,2,0,1;d0,0,1;");
        int[][] wrong = {{0, 0, 1}, {2, 2, 0}, {3, 0, 1}, {0, 3, 1}, {-1, 0, 1}, {0, -1, 1}, {0, 1, 2}, {0, 1, -1},
            {Integer.MAX_VALUE, 0, 0}, {0, Integer.MIN_VALUE, 0}, {0, 1, Integer.MAX_VALUE}};
        for (int[] w : wrong) {
            Due.is("see " + w[0] + "," + w[1] + "," + w[2], x.see(w[0], w[1], w[2]), BAD);
        }
        Due.is("nothing seen", x.count(8), 0);
        for (int i = 1; i <= 8; i++) {
            Due.is("see", x.see(i % 2, 2, 1), i);
        }
        String before = Story.now(x);
        Due.is("the ninth", x.see(0, 1, 0), FULL);
        Due.is("BAD ahead of FULL", x.see(0, 0, 0), BAD);
        Due.same("what is not seen", x, before);
        Due.is("as seen", x.seamed(0), 1);
        Due.is("all", x.seamed(1), 3);
    }

    private static void promise22Forget() {
        SeamMere x = new SeamMere();
        Due.is("none", x.forget(), 0);
        x.see(0, 1, 1);
        x.see(1, 2, 0);
        x.pass(1);
        x.keep();
        x.undo();
        x.back();
        Due.is("seen stays", x.count(8), 2);
        Due.is("forget two", x.forget(), 2);
        Due.is("forgotten", x.count(8), 0);
        Due.is("all sets again", x.seamed(0), 128);
        Due.is("forget again", x.forget(), 0);
        Due.is("see anew", x.see(4, 5, 1), 1);
    }

    private static void promise23And24() {
        SeamMere x = Due.laid("p3;g0,0,1,0,1;g0,1,2,0,1;d0,0,1;");
        Due.tell("nothing seen", x, 4, 0, 1, 2);
        x.send(0, 0);
        x.pass(1);
        Due.tell("however they are now", x, 4, 0, 1, 2);
        x.see(0, 1, 1);
        Due.tell("0 and 1 together", x, 2, 1, 2, 1);
        x.see(2, 0, 0);
        Due.tell("2 and 0 apart", x, 1, 1, 12, 1);
        String before = Story.now(x);
        x.tells(0);
        Due.same("tells", x, before);
        x.see(1, 2, 0);
        Due.tell("all pairs seen", x, 1, 1, NONE, NONE);
        x.see(1, 2, 1);
        Due.tell("no such set", x, 0, NONE, NONE, NONE);
        x.forget();
        x.see(1, 2, 0);
        x.see(0, 1, 0);
        Due.tell("both apart", x, 1, 0, 2, 1);
        int[] wrong = {2, -1, Integer.MAX_VALUE, Integer.MIN_VALUE};
        for (int what : wrong) {
            Due.is("seamed " + what, x.seamed(what), BAD);
            Due.is("tells " + what, x.tells(what), BAD);
        }
        x.see(0, 1, 1);
        Due.is("BAD ahead of NONE, seamed", x.seamed(2), BAD);
        Due.is("BAD ahead of NONE, tells", x.tells(2), BAD);
    }

    private static void promise23Seamed() {
        SeamMere none = Due.laid("p4;g0,0,1,0,1;g0,1,2,0,1;d0,0,1;");
        none.see(0, 3, 1);
        Due.tell("no gap to 3", none, 0, NONE, NONE, NONE);
        SeamMere ring = Due.laid("p4;g0,0,1,0,1;g0,1,2,0,1;g0,2,3,0,1;g0,3,0,0,1;g0,0,2,0,1;d0,0,1;");
        ring.see(0, 2, 1);
        // The fifth gap, or 0-1-2, or 0-3-2: 16 + (16 - 3 * 3) sets, 0-1-2 being the lowest.
        Due.is("ways round", ring.seamed(0), 23);
        Due.is("the lowest way", ring.seamed(1), 3);
        ring.see(1, 0, 0);
        Due.is("without 0 and 1", ring.seamed(0), 5);
        Due.is("the lowest other way", ring.seamed(1), 12);
        SeamMere eight = Due.laid("p8;g0,0,1,0,1;g0,1,2,0,1;g0,2,3,0,1;g0,3,4,0,1;g0,4,5,0,1;g0,5,6,0,1;g0,6,7,0,1;g0,7,0,0,1;"
            + "d0,0,1;");
        Due.is("of eight gaps", eight.seamed(0), 256);
        eight.see(0, 4, 1);
        Due.is("round on either side", eight.seamed(0), 31);
        Due.is("by the lower four", eight.seamed(1), 15);
    }

    private static void promise24Tells() {
        SeamMere x = Due.laid("p4;g0,2,3,0,1;g0,1,3,0,1;d0,0,1;");
        Due.tell("the lower piece first", x, 4, 0, 13, 2);
        SeamMere y = Due.laid("p4;g0,1,3,0,1;g0,1,2,0,1;d0,0,1;");
        Due.tell("then the other one", y, 4, 0, 12, 2);
        SeamMere two = Due.laid("p2;g0,0,1,0,1;g0,0,1,0,1;d0,0,1;");
        Due.tell("more together than not", two, 4, 0, 1, 3);
        two.see(1, 0, 1);
        Due.tell("seen backwards", two, 3, 1, NONE, NONE);
        SeamMere apart = Due.laid("p5;g0,3,4,0,1;d0,0,1;");
        apart.see(3, 4, 0);
        Due.tell("no pair tells, the first", apart, 1, 0, 1, 1);
        SeamMere alone = Due.laid("p3;g0,0,1,0,1;g0,1,2,0,1;d0,0,1;");
        Due.is("part, asked alone", alone.tells(1), 2);
        alone.see(0, 1, 1);
        Due.is("pair, asked alone", alone.tells(0), 2);
        alone.see(1, 0, 0);
        Due.is("none, asked alone", alone.tells(0), NONE);
    }
}
