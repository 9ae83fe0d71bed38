/** What the promise tests share: answers that are due, and meres laid by a text. */
final class Due {
    private static int wrong = 0;

    private Due() {
    }

    static void is(String what, int got, int want) {
        if (got != want) {
            wrong++;
            System.out.println(what + " answered " + got + ", due is " + want);
        }
    }

    /** A new object with the text as THE TEXT. */
    static SeamMere written(String text) {
        SeamMere mere = new SeamMere();
        write(mere, text);
        return mere;
    }

    static void write(SeamMere mere, String text) {
        mere.wipe();
        for (int i = 0; i < text.length(); i++) {
            mere.write(text.charAt(i));
        }
    }

    /** A new object on which the text is laid. */
    static SeamMere laid(String text) {
        SeamMere mere = written(text);
        if (mere.lay() < 1) {
            is("lay of " + text, mere.fault(), SeamMere.NONE);
            wrong++;
        }
        return mere;
    }

    /** All that an object tells by its own calls, as one text. */
    static String all(SeamMere mere) {
        StringBuilder b = new StringBuilder();
        for (int what = 0; what <= 11; what++) {
            b.append(mere.count(what)).append(' ');
        }
        for (int g = 0; g < mere.count(1); g++) {
            for (int what = 0; what <= 6; what++) {
                b.append(mere.gap(g, what)).append(' ');
            }
        }
        for (int d = 0; d < mere.count(2); d++) {
            for (int what = 0; what <= 3; what++) {
                b.append(mere.stitcher(d, what)).append(' ');
            }
        }
        b.append(mere.seamed(0)).append(' ').append(mere.seamed(1)).append(' ').append(mere.fault());
        return b.toString();
    }

    /** That nothing that the object tells has changed since. */
    static void same(String what, SeamMere mere, String before) {
        String after = all(mere);
        if (!after.equals(before)) {
            wrong++;
            System.out.println(what + " changed " + before + " to " + after);
        }
    }

    static void end() {
        if (wrong != 0) {
            System.exit(1);
        }
    }
}
