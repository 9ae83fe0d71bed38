import java.lang.reflect.InvocationTargetException;
import java.lang.reflect.Method;
import java.lang.reflect.Modifier;
import java.util.Arrays;

/** What the promise tests share: answers that are due, and meres to ask. */
final class Due {
    /** A call of one object, and what it answers. */
    interface Call {
        int on(SeamMere x);
    }

    /** Makes an object as a test needs it, the same one each time. */
    interface Maker {
        SeamMere make();
    }

    private static int wrong = 0;
    private static volatile String test = "";

    static {
        watch(Integer.getInteger("seconds", 300));
    }

    private Due() {
    }

    /** A test that does not end fails, so that .ci/run does not wait for ever. */
    private static void watch(int seconds) {
        Thread watch = new Thread(() -> {
            try {
                Thread.sleep(1000L * seconds);
            } catch (InterruptedException e) {
                return;
            }
            System.out.println(test + "not ended behind " + seconds + " seconds");
            Runtime.getRuntime().halt(1);
        });
        watch.setDaemon(true);
        watch.start();
    }

    static void is(String what, int got, int want) {
        if (got != want) {
            fault(what + " answered " + got + ", due is " + want);
        }
    }

    static void alike(String what, String got, String want) {
        if (!got.equals(want)) {
            fault(what + ": " + got + ", due is " + want);
        }
    }

    /** That nothing that the object tells has changed since. */
    static void same(String what, SeamMere mere, String before) {
        alike("what is told behind " + what, Story.now(mere), before);
    }

    private static void fault(String what) {
        wrong++;
        System.out.println(test + what);
    }

    /** Runs each method of a class whose name begins with "promise", by itself, and ends. */
    static void runAll(Class<?> tests) {
        Method[] methods = tests.getDeclaredMethods();
        Arrays.sort(methods, (a, b) -> a.getName().compareTo(b.getName()));
        for (Method m : methods) {
            if (m.getName().startsWith("promise") && Modifier.isStatic(m.getModifiers())) {
                runOne(m);
            }
        }
        end();
    }

    private static void runOne(Method m) {
        test = m.getName() + ": ";
        try {
            m.setAccessible(true);
            m.invoke(null);
        } catch (InvocationTargetException e) {
            fault("threw " + e.getCause());
        } catch (IllegalAccessException e) {
            fault("can't be run: " + e);
        }
        test = "";
    }

    /** Numbers that are not from least to most: the nearest, the farthest, and some that a shift or a cut would let in. */
    static int[] outside(int least, int most) {
        int[] some = {Integer.MIN_VALUE, Integer.MIN_VALUE + most, least - 256, least - 1, most + 1, least + 32, least + 256,
            least + 65536, Integer.MAX_VALUE};
        return Arrays.stream(some).filter(n -> n < least || n > most).toArray();
    }

    /** That a call answers so and that nothing changes then: all later calls answer as those of a twin. */
    static void refused(Maker maker, String what, int want, Call call) {
        SeamMere x = maker.make();
        is(what, call.on(x), want);
        alike("what is told behind " + what, Story.of(x), Story.of(maker.make()));
    }

    static void bad(Maker maker, String what, Call call) {
        refused(maker, what, SeamMere.BAD, call);
    }

    /** That a call changes nothing, whatever it answers. */
    static void only(Maker maker, String what, Call call) {
        SeamMere x = maker.make();
        call.on(x);
        alike("what is told behind " + what, Story.of(x), Story.of(maker.make()));
    }

    /** A new object with the text as THE TEXT. */
    static SeamMere written(String text) {
        SeamMere mere = new SeamMere();
        write(mere, text);
        return mere;
    }

    static void write(SeamMere mere, String text) {
        mere.wipe();
        writeOn(mere, text);
    }

    static void writeOn(SeamMere mere, String text) {
        for (int i = 0; i < text.length(); i++) {
            mere.write(text.charAt(i));
        }
    }

    /** A new object on which the text is laid. */
    static SeamMere laid(String text) {
        SeamMere mere = written(text);
        if (mere.lay() < 1) {
            fault("no lay of " + text + ", fault " + mere.fault());
        }
        return mere;
    }

    static final String RICH = "p5;g0,0,1,0,2;g2,1,2,0,9;g0,2,3,4,2;d0,0,1;d1,9,2;l20;r0;r0;r0;r1;";

    /** Gap 0 is closed, 0 is sent to gap 1 and sews, 1 to gap 2 and flies; some is seen, one kept, six can be undone. */
    static SeamMere rich() {
        SeamMere x = laid(RICH);
        x.send(0, 0);
        x.pass(1);
        x.keep();
        x.see(0, 1, 1);
        x.send(0, 1);
        x.see(3, 4, 0);
        x.pass(1);
        x.send(1, 2);
        x.pass(2);
        return x;
    }

    /** The text with so much light behind it that it has 200 letters; it needs more than five for that. */
    static String filled(String text) {
        StringBuilder b = new StringBuilder(text);
        while ((200 - b.length()) % 3 != 0) {
            b.append("l20;");
        }
        while (b.length() < 200) {
            b.append("l9;");
        }
        return b.toString();
    }

    /** A mere with as much seen, kept, undone and written as there can be. */
    static SeamMere full() {
        SeamMere x = laid(filled(RICH));
        x.send(0, 0);
        x.send(1, 2);
        x.pass(1);
        x.keep();
        for (int i = 0; i < 8; i++) {
            x.see(i % 2, 1 + i % 2, i % 2);
        }
        x.send(0, 1);
        x.pass(2);
        x.keep();
        for (int n = 1; n <= 6; n++) {
            x.pass(n);
        }
        return x;
    }

    /** Sends 0 to each of the gaps in turn, each of which it closes in one hour. */
    static void sewAll(SeamMere x, int... gaps) {
        for (int g : gaps) {
            x.send(0, g);
            x.pass(1);
            is("sewn " + g, x.gap(g, 6), 1);
        }
    }

    /** The order that is due: its hours and its gaps. */
    static void row(String what, SeamMere x, int d, int n, int hours, int... gaps) {
        is(what + ": how many", x.order(d, n, -1), gaps.length);
        for (int k = 0; k < 3; k++) {
            is(what + ": " + k, x.order(d, n, k), k < gaps.length ? gaps[k] : SeamMere.NONE);
        }
        is(what + ": hours", x.order(d, n, 3), hours);
    }

    /** The deal that is due: how many are closed, and the gap of each stitcher. */
    static void way(String what, SeamMere x, int n, int closed, int... gaps) {
        is(what + ": how many", x.deal(n, -1), closed);
        for (int d = 0; d < gaps.length; d++) {
            is(what + ": " + d, x.deal(n, d), gaps[d]);
        }
    }

    /** What of sets and pairs is due by what was seen. */
    static void tell(String what, SeamMere x, int sets, int lowest, int pair, int part) {
        is(what + ": sets", x.seamed(0), sets);
        is(what + ": lowest", x.seamed(1), lowest);
        is(what + ": pair", x.tells(0), pair);
        is(what + ": part", x.tells(1), part);
    }

    /** The showers that are due. */
    static void chance(String what, SeamMere x, int g, int n, int rain, int above, int below) {
        is(what + ": above", x.showers(g, n, rain, 0), above);
        is(what + ": below", x.showers(g, n, rain, 1), below);
    }

    static void end() {
        if (wrong != 0) {
            System.exit(1);
        }
    }
}
