import java.lang.reflect.Method;

/** That each promise has tests of its boundaries that bear its number. */
public final class CoverTest {
    private static final Class<?>[] EDGES = {TextEdgesTest.class, MereEdgesTest.class, ActEdgesTest.class, ComingEdgesTest.class,
        SeamEdgesTest.class, SeenEdgesTest.class, SummerEdgesTest.class};
    private static final int PROMISES = 29;

    public static void main(String[] args) {
        int[] tests = new int[PROMISES + 1];
        for (Class<?> edges : EDGES) {
            for (Method m : edges.getDeclaredMethods()) {
                if (m.getName().matches("promise\\d\\d_.*")) {
                    tests[Integer.parseInt(m.getName().substring(7, 9))]++;
                }
            }
        }
        for (int promise = 1; promise <= PROMISES; promise++) {
            Due.is("promise " + promise + " has tests", tests[promise] > 0 ? 1 : 0, 1);
        }
        Due.end();
    }
}
