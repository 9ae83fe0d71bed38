import java.lang.reflect.Method;
import java.util.Arrays;
import java.util.Random;

/** Any numbers in any state: no call throws, and one that answers BAD, NO or FULL changes nothing. */
public final class WildTest {
    private static final int[] EDGES = {Integer.MIN_VALUE, Integer.MIN_VALUE + 1, -65536, -33, -5, -4, -3, -2, -1, 0, 1, 2, 3, 4, 5, 6,
        7, 8, 9, 10, 11, 12, 24, 25, 31, 32, 33, 59, 60, 61, 63, 64, 99, 100, 126, 127, 200, 256, 9999, 10000, 65536,
        Integer.MAX_VALUE - 1, Integer.MAX_VALUE};

    public static void main(String[] args) throws Exception {
        Method[] methods = Arrays.stream(SeamMere.class.getDeclaredMethods())
            .filter(m -> java.lang.reflect.Modifier.isPublic(m.getModifiers()))
            .sorted((a, b) -> a.getName().compareTo(b.getName())).toArray(Method[]::new);
        Random random = new Random(2026);
        for (int object = 0; object < 3000; object++) {
            SeamMere x = new SeamMere();
            if (object % 2 == 1) {
                Due.write(x, "p8;g0,0,1,0,1;g1,1,2,5,20;g2,2,3,9,7;g3,3,4,1,4;g0,4,5,40,9;g0,5,6,2,2;g1,6,7,2,8;g2,7,0,3,5;"
                    + "d0,0,9;d1,2,9;d2,40,9;d3,1,9;l20;r0;r1;r0;");
                x.lay();
            }
            // No object is called more than 512 times.
            for (int i = 0; i < random.nextInt(40); i++) {
                wild(x, methods[random.nextInt(methods.length)], random);
                x.send(random.nextInt(4), random.nextInt(8));
                x.pass(1);
            }
            String before = Story.now(x);
            int got = wild(x, methods[random.nextInt(methods.length)], random);
            if (got >= SeamMere.FULL && got <= SeamMere.BAD) {
                Due.same("a refused call", x, before);
            }
        }
        Due.end();
    }

    private static int wild(SeamMere x, Method m, Random random) throws Exception {
        Object[] args = new Object[m.getParameterCount()];
        for (int i = 0; i < args.length; i++) {
            args[i] = EDGES[random.nextInt(EDGES.length)];
        }
        int got = (int) m.invoke(x, args);
        Due.is(m.getName() + Arrays.toString(args) + " is told", got >= SeamMere.NONE ? 1 : 0, 1);
        return got;
    }
}
