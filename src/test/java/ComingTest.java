/** Promises 14 to 20: what comes, and what hangs together by which seams. */
public final class ComingTest {
    private static final int BAD = SeamMere.BAD, NONE = SeamMere.NONE;

    public static void main(String[] args) {
        Due.runAll(ComingTest.class);
    }

    private static void promise14Closes() {
        SeamMere x = Due.laid("g0,0,1,0,6;g0,0,1,9,3;d0,3,2;");
        Due.is("nobody sent", x.closes(0), NONE);
        x.send(0, 0);
        String before = Story.now(x);
        Due.is("2 hours of flight, 3 of sewing", x.closes(0), 5);
        Due.is("the other gap", x.closes(1), NONE);
        Due.same("closes", x, before);
        x.pass(4);
        Due.is("one more", x.closes(0), 1);
        x.pass(3);
        Due.is("closed now", x.closes(0), 0);
        SeamMere last = Due.laid("g0,0,1,0,18;g0,0,1,0,19;d1,40,1;d1,40,1;l23;");
        last.send(0, 0);
        last.send(1, 1);
        Due.is("behind 60 hours", last.closes(0), 60);
        Due.is("not behind 61", last.closes(1), NONE);
        last.pass(1);
        Due.is("an hour later", last.closes(1), 60);
        SeamMere rain = Due.laid("g0,0,1,0,4;d0,0,1;r1;");
        rain.send(0, 0);
        Due.is("in rain", rain.closes(0), 3);
        int[] wrong = {2, -1, 8, Integer.MAX_VALUE, Integer.MIN_VALUE};
        for (int g : wrong) {
            Due.is("closes " + g, x.closes(g), BAD);
        }
    }

    private static void promise15Dusk() {
        SeamMere x = Due.laid("g0,0,1,0,10;g0,0,1,0,12;g0,0,1,0,2;d0,0,1;d0,0,1;d0,0,1;l5;");
        x.send(0, 0);
        x.send(1, 1);
        x.send(2, 2);
        String before = Story.now(x);
        Due.is("5 hours of light", x.dusk(), 5);
        Due.same("dusk", x, before);
        x.pass(2);
        Due.is("3 hours are left", x.dusk(), 5);
        x.frog(2);
        Due.is("without it", x.dusk(), 1);
        x.pass(3);
        Due.is("dark now", x.dusk(), 1);
        x.pass(18);
        Due.is("dark still", x.dusk(), 1);
        x.pass(1);
        Due.is("the next day", x.dusk(), 3);
        SeamMere day = Due.laid("g0,0,1,4,20;g0,0,1,5,20;d1,0,1;d1,0,1;l24;");
        day.send(0, 0);
        day.send(1, 1);
        Due.is("behind 24 hours", day.dusk(), 1);
        day.pass(13);
        Due.is("24 more", day.dusk(), 3);
        SeamMere rain = Due.laid("g0,0,1,0,4;g0,0,1,0,5;d0,0,1;d0,0,1;l3;r1;");
        rain.send(0, 0);
        rain.send(1, 1);
        Due.is("in rain", rain.dusk(), 1);
    }

    private static void promise16Order() {
        SeamMere x = Due.laid("g0,0,1,0,4;g0,0,1,4,2;g0,0,1,1,2;d0,0,4;d3,0,1;l24;");
        x.send(1, 2);
        String before = Story.now(x);
        Due.row("24 hours", x, 0, 24, 6, 0, 1, 2);
        Due.row("6 hours", x, 0, 6, 6, 0, 1, 2);
        Due.row("5 hours", x, 0, 5, 4, 0, 1);
        Due.row("3 hours", x, 0, 3, 2, 0);
        Due.row("1 hour", x, 0, 1, 0);
        Due.row("YOUNG in 5", x, 1, 5, 3, 2);
        Due.row("YOUNG in 24", x, 1, 24, 12, 0, 2, 1);
        Due.same("order", x, before);
        x.send(0, 1);
        x.pass(1);
        Due.row("from another place", x, 0, 2, 1, 1);
        int[][] wrong = {{2, 1, 0}, {-1, 1, 0}, {0, 0, 0}, {0, 25, 0}, {0, -1, 0}, {0, 1, -2}, {0, 1, 4},
            {Integer.MAX_VALUE, 1, 0}, {0, Integer.MIN_VALUE, 0}, {0, 1, Integer.MAX_VALUE}};
        for (int[] w : wrong) {
            Due.is("order " + w[0] + "," + w[1] + "," + w[2], x.order(w[0], w[1], w[2]), BAD);
        }
    }

    private static void promise16OrderTies() {
        SeamMere x = Due.laid("g0,0,1,0,6;g0,0,1,4,2;g0,0,1,1,2;d0,0,4;");
        Due.row("fewest hours", x, 0, 3, 2, 1);
        Due.row("fewest hours of two", x, 0, 4, 4, 1, 2);
        Due.row("the first of three", x, 0, 24, 7, 0, 1, 2);
        SeamMere four = Due.laid("g0,0,1,0,4;g0,0,1,0,2;g0,0,1,0,2;g0,0,1,0,2;d0,0,1;d2,0,1;");
        Due.row("3 at most", four, 0, 24, 3, 1, 2, 3);
        Due.row("2 of them", four, 0, 2, 2, 1, 2);
        four.send(0, 2);
        four.pass(1);
        Due.row("not those closed now", four, 0, 24, 4, 0, 1, 3);
        four.send(1, 0);
        Due.row("all others called off", four, 0, 1, 1, 1);
        four.send(0, 0);
        Due.row("the lower one too", four, 1, 1, 1, 0);
        SeamMere young = Due.laid("g0,0,1,0,20;g0,0,1,0,20;d2,0,1;d0,0,1;d2,0,1;");
        young.send(0, 0);
        young.send(2, 1);
        Due.row("alone at wide ones", young, 1, 9, 0);
        Due.row("alone at one", young, 1, 10, 10, 0);
        for (int g = 0; g < 4; g++) {
            four.send(1, g);
            four.pass(1);
        }
        Due.row("all closed", four, 0, 24, 0);
        SeamMere rain = Due.laid("g0,0,1,0,4;g0,0,1,0,3;d0,0,1;r1;");
        rain.send(0, 1);
        rain.pass(1);
        Due.row("while the rain unpicks", rain, 0, 24, 4, 1, 0);
        Due.row("no time for both", rain, 0, 3, 1, 1);
        SeamMere dark = Due.laid("g0,0,1,0,6;d0,0,1;l2;");
        Due.row("behind 25 hours", dark, 0, 24, 0);
        dark.pass(1);
        Due.row("behind 24 hours", dark, 0, 24, 0);
        dark.pass(23);
        dark.send(0, 0);
        dark.pass(1);
        Due.row("24 hours on", dark, 0, 24, 24, 0);
        Due.row("23 hours on", dark, 0, 23, 0);
    }

    private static void promise17Deal() {
        SeamMere x = Due.laid("g0,0,1,0,4;g0,0,1,0,2;g0,0,1,0,20;d0,0,1;d0,0,1;");
        x.send(0, 2);
        String before = Story.now(x);
        Due.way("1 hour", x, 1, 1, 0, 0);
        Due.way("2 hours", x, 2, 2, 0, 1);
        Due.way("9 hours", x, 9, 2, 0, 1);
        Due.way("10 hours", x, 10, 2, 0, 1);
        Due.same("deal", x, before);
        x.send(1, 1);
        x.pass(1);
        Due.way("with one closed now", x, 1, 2, 0, 0);
        Due.way("in 2 hours", x, 2, 2, 0, 0);
        Due.way("in 9 hours", x, 9, 3, 0, 2);
        SeamMere both = Due.laid("g0,0,1,0,20;g0,0,1,0,4;d0,0,1;d0,0,1;");
        Due.way("both at the second", both, 1, 1, 1, 1);
        int[][] wrong = {{0, 0}, {25, 0}, {-1, 0}, {1, 2}, {1, -2}, {Integer.MAX_VALUE, 0}, {1, Integer.MIN_VALUE}};
        for (int[] w : wrong) {
            Due.is("deal " + w[0] + "," + w[1], x.deal(w[0], w[1]), BAD);
        }
    }

    private static void promise17DealTies() {
        SeamMere x = Due.laid("g0,0,1,0,20;g0,0,1,0,2;d0,0,1;d2,0,1;l3;");
        Due.way("the lowest one first", x, 1, 1, 0, 1);
        x.pass(3);
        Due.way("by night", x, 1, 0, 0, 0);
        x.pass(21);
        x.send(1, 1);
        x.pass(1);
        Due.way("those not closed", x, 1, 1, 0, 0);
        SeamMere none = Due.laid("g0,0,1,0,2;g0,0,1,9,2;d0,0,1;d3,9,1;");
        none.send(0, 0);
        none.pass(1);
        Due.way("none closes", none, 1, 1, 1, 1);
        none.send(1, 1);
        none.pass(2);
        Due.way("all are closed", none, 24, 2, NONE, NONE);
        SeamMere fresh = Due.laid("g0,0,1,0,2;d0,0,1;d0,0,1;d0,0,1;");
        fresh.send(0, 0);
        fresh.pass(1);
        Due.way("all are closed at first", fresh, 1, 1, NONE, NONE, NONE);
        SeamMere four = Due.laid("g0,0,1,0,2;g1,0,1,0,4;g3,0,1,0,2;g0,0,1,0,4;d2,0,1;d0,0,1;d1,0,1;d3,0,1;");
        Due.way("four to four", four, 1, 3, 0, 2, 1, 0);
        SeamMere rain = Due.laid("g2,0,1,0,4;g0,0,1,0,4;d0,0,1;d0,0,1;r1;");
        Due.way("in rain", rain, 3, 1, 0, 0);
    }

    private static void promise18Cut() {
        SeamMere x = Due.laid("p5;g0,0,1,0,1;g0,1,2,0,1;g0,0,2,0,1;g0,2,3,0,1;d0,0,1;l24;");
        Due.is("apart", x.cut(0, 1), NONE);
        Due.sewAll(x, 0, 1, 2, 3);
        String before = Story.now(x);
        Due.is("0 and 2", x.cut(0, 2), 5);
        Due.is("2 and 0", x.cut(2, 0), 5);
        Due.is("0 and 1", x.cut(0, 1), 3);
        Due.is("1 and 2", x.cut(1, 2), 3);
        Due.is("1 and 3", x.cut(1, 3), 8);
        Due.is("the fifth", x.cut(4, 3), NONE);
        Due.same("cut", x, before);
        x.frog(1);
        Due.is("of a chain the lowest", x.cut(1, 2), 1);
        Due.is("of a chain of three", x.cut(3, 1), 1);
        Due.is("of its end", x.cut(3, 0), 4);
        SeamMere eight = Due.laid("g0,0,1,0,1;g0,1,0,0,1;g0,0,1,0,1;g0,0,1,0,1;g0,0,1,0,1;g0,0,1,0,1;g0,0,1,0,1;"
            + "g0,0,1,0,1;d0,0,1;l24;");
        Due.sewAll(eight, 0, 1, 2, 3, 4, 5, 6, 7);
        Due.is("all eight", eight.cut(0, 1), 255);
        int[][] wrong = {{0, 0}, {4, 4}, {5, 0}, {0, 5}, {-1, 0}, {0, -1}, {Integer.MAX_VALUE, 0}, {1, Integer.MIN_VALUE}};
        for (int[] w : wrong) {
            Due.is("cut " + w[0] + "," + w[1], x.cut(w[0], w[1]), BAD);
        }
    }

    private static void promise19Between() {
        SeamMere x = Due.laid("p8;g0,0,1,0,1;g0,2,1,0,1;g0,2,3,0,1;g0,4,3,0,1;g0,4,5,0,1;g0,6,5,0,1;g0,6,7,0,1;g0,7,1,0,1;"
            + "d0,0,1;l24;");
        for (int p = 0; p < 8; p++) {
            Due.is("alike", x.between(p, p), 0);
        }
        Due.is("apart", x.between(0, 1), NONE);
        Due.sewAll(x, 0, 1, 2, 3, 4, 5, 6);
        Due.is("one", x.between(0, 1), 1);
        Due.is("seven", x.between(0, 7), 7);
        Due.is("seven back", x.between(7, 0), 7);
        Due.is("three", x.between(2, 5), 3);
        Due.sewAll(x, 7);
        Due.is("the shorter way", x.between(0, 7), 2);
        Due.is("either way", x.between(1, 4), 3);
        Due.is("the other way", x.between(5, 1), 3);
        x.frog(0);
        Due.is("apart again", x.between(0, 7), NONE);
        int[][] wrong = {{8, 0}, {0, 8}, {-1, 0}, {0, -1}, {8, 8}, {Integer.MAX_VALUE, 0}, {1, Integer.MIN_VALUE}};
        for (int[] w : wrong) {
            Due.is("between " + w[0] + "," + w[1], x.between(w[0], w[1]), BAD);
        }
    }

    private static void joins(SeamMere x, int which, int many) {
        Due.is("joins which behind " + x.count(3), x.joins(0), which);
        Due.is("joins how many behind " + x.count(3), x.joins(1), many);
    }

    private static void promise20Joins() {
        SeamMere x = Due.laid("p6;g0,0,1,0,1;g0,2,3,0,1;g0,1,2,0,1;g0,4,5,0,1;g0,0,3,0,1;g0,0,1,0,1;d0,0,1;l24;");
        joins(x, 0, 1);
        Due.sewAll(x, 0);
        joins(x, 2, 2);
        Due.sewAll(x, 1);
        joins(x, 2, 4);
        Due.sewAll(x, 2);
        joins(x, 3, 1);
        Due.sewAll(x, 3);
        joins(x, 4, 0);
        Due.sewAll(x, 4);
        joins(x, 5, 0);
        Due.sewAll(x, 5);
        joins(x, NONE, NONE);
        int[] wrong = {2, -1, Integer.MAX_VALUE, Integer.MIN_VALUE};
        for (int what : wrong) {
            Due.is("joins " + what, x.joins(what), BAD);
        }
    }
}
