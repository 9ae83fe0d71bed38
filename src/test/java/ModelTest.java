import java.lang.reflect.Method;
import java.util.ArrayList;
import java.util.Arrays;
import java.util.List;
import java.util.Random;

/** Random runs of calls on SeamMere and on PlainMere, which must answer alike. */
public final class ModelTest {
    private static final String[] SCRIPTED = {"write", "wipe", "lay"};
    private static final int OBJECTS = Integer.getInteger("objects", 500);
    private static int wrong = 0;

    private final Random random;
    private final SeamMere real = new SeamMere();
    private final PlainMere plain = new PlainMere();
    private final List<String> said = new ArrayList<>();
    private int calls = 0;

    private ModelTest(long seed) {
        random = new Random(seed);
    }

    public static void main(String[] args) throws Exception {
        Due.is("there are objects to compare", OBJECTS > 0 ? 1 : 0, 1);
        for (int seed = 0; seed < OBJECTS && wrong == 0; seed++) {
            new ModelTest(seed).run();
        }
        Due.end();
    }

    private void run() throws Exception {
        if (random.nextInt(4) != 0) {
            writeText(true);
        }
        List<Method> methods = new ArrayList<>();
        for (Method m : SeamMere.class.getDeclaredMethods()) {
            if (java.lang.reflect.Modifier.isPublic(m.getModifiers()) && !Arrays.asList(SCRIPTED).contains(m.getName())) {
                methods.add(m);
            }
        }
        methods.sort((a, b) -> a.getName().compareTo(b.getName()));
        int length = 150;
        for (int i = 0; i < length && wrong == 0 && calls < 500; i++) {
            int kind = random.nextInt(100);
            if (kind == 0 && calls < 250) {
                writeText(random.nextInt(3) != 0);
            } else if (kind < 30) {
                call("send", pick(4), pick(8));
            } else if (kind < 42) {
                call("pass", 1 + random.nextInt(random.nextInt(4) == 0 ? 24 : 3));
            } else if (kind < 46) {
                call("see", pick(5), pick(5), random.nextInt(2));
            } else {
                callRandom(methods.get(random.nextInt(methods.size())));
            }
        }
        for (int what = 0; what < 12; what++) {
            call("count", what);
        }
    }

    /** Mostly numbers that are told, and now and then one that is not. */
    private int pick(int below) {
        return random.nextInt(25) == 0 ? random.nextInt(3) * (below + 1) - 2 : random.nextInt(below);
    }

    private void callRandom(Method m) throws Exception {
        Object[] args = new Object[m.getParameterCount()];
        for (int i = 0; i < args.length; i++) {
            args[i] = pick(8);
        }
        switch (m.getName()) {
            case "order": args[0] = pick(4); args[1] = 1 + pick(24); args[2] = pick(5) - 1; break;
            case "deal": args[0] = 1 + pick(random.nextInt(3) == 0 ? 24 : 8); args[1] = pick(5) - 1; break;
            case "joins": case "seamed": case "tells": args[0] = pick(2); break;
            case "sky": args[0] = pick(100); args[1] = pick(2); break;
            case "stitcher": args[0] = pick(4); args[1] = pick(4); break;
            case "see": args[2] = pick(2); break;
            case "showers": args[1] = pick(9); args[2] = pick(11); args[3] = pick(2); break;
            case "summer": args[0] = pick(10000); args[1] = 1 + pick(60); args[2] = pick(2); break;
            case "count": args[0] = pick(13); break;
            case "forget": if (random.nextInt(3) != 0) { return; } break;
            default: break;
        }
        call(m.getName(), args);
    }

    private void writeText(boolean good) throws Exception {
        call("wipe");
        String text = good ? goodText() : spoilt(goodText());
        for (int i = 0; i < text.length() && i < 201; i++) {
            call("write", (int) text.charAt(i));
        }
        call("fault");
        call("lay");
    }

    private String goodText() {
        StringBuilder b = new StringBuilder();
        int pieces = 4;
        if (random.nextInt(5) != 0) {
            pieces = 2 + random.nextInt(random.nextBoolean() ? 3 : 7);
            b.append('p').append(pieces).append(';');
        }
        int spread = 1 + random.nextInt(random.nextBoolean() ? 5 : 41);
        int wide = 1 + random.nextInt(random.nextBoolean() ? 6 : 20);
        int gaps = 1 + random.nextInt(8);
        for (int g = 0; g < gaps; g++) {
            int a = random.nextInt(pieces);
            int other = (a + 1 + random.nextInt(pieces - 1)) % pieces;
            b.append('g').append(random.nextInt(4)).append(',').append(a).append(',').append(other).append(',');
            b.append(random.nextInt(spread)).append(',').append(1 + random.nextInt(wide)).append(';');
        }
        int stitchers = 1 + random.nextInt(4);
        for (int d = 0; d < stitchers; d++) {
            b.append('d').append(random.nextInt(4)).append(',').append(random.nextInt(spread)).append(',');
            b.append(1 + random.nextInt(9)).append(';');
        }
        if (random.nextInt(3) != 0) {
            b.append('l').append(random.nextInt(4) == 0 ? 24 : 1 + random.nextInt(24)).append(';');
        }
        int rains = random.nextInt(3) == 0 ? 0 : random.nextInt(6);
        for (int i = 0; i < rains; i++) {
            b.append('r').append(random.nextInt(3) == 0 ? 1 : 0).append(';');
        }
        return b.toString();
    }

    private String spoilt(String text) {
        StringBuilder b = new StringBuilder(text);
        String some = "pgdlr0123456789,;; x";
        for (int i = 0; i <= random.nextInt(3); i++) {
            int at = random.nextInt(b.length());
            char c = some.charAt(random.nextInt(some.length()));
            switch (random.nextInt(4)) {
                case 0: b.setCharAt(at, c); break;
                case 1: b.insert(at, c); break;
                case 2: b.deleteCharAt(at); break;
                default: b.append(b.substring(0, at)); break;
            }
        }
        return b.length() == 0 ? "g" : b.toString();
    }

    private void call(String name, Object... args) throws Exception {
        Class<?>[] types = new Class<?>[args.length];
        Arrays.fill(types, int.class);
        calls++;
        said.add(name + Arrays.toString(args));
        Object got = SeamMere.class.getMethod(name, types).invoke(real, args);
        Object want = PlainMere.class.getMethod(name, types).invoke(plain, args);
        if (!got.equals(want)) {
            wrong++;
            Due.is(String.join(" ", said), (int) got, (int) want);
        }
    }
}
