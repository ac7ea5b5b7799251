import java.lang.reflect.Method;
import java.util.ArrayList;
import java.util.Arrays;
import java.util.Comparator;
import java.util.List;
import java.util.Random;
import java.util.Set;

/** Every method of the face with numbers at and far beyond every edge, in many states, compared with PlainDesk. */
final class EdgeRuns {
    private static final int[] EDGES = {Integer.MIN_VALUE, Integer.MIN_VALUE + 1, -1_000_000_001, -1001, -25, -24, -13, -3, -2, -1,
        0, 0, 0, 1, 1, 1, 2, 2, 3, 4, 5, 6, 7, 10, 11, 12, 13, 16, 17, 19, 20, 21, 23, 24, 25, 60, 61, 99, 100, 399, 400, 401,
        998, 999, 1000, 1_000_000, 1_000_001, 0x62617273, Integer.MAX_VALUE - 1, Integer.MAX_VALUE};
    private static final Set<String> OF_VOICES =
        Set.of("best", "between", "richest", "ways", "mend", "compass", "cheapest", "compare");

    private EdgeRuns() {
    }

    static void run() throws Exception {
        List<Method> face = new ArrayList<>();
        for (Method m : CounterDesk.class.getDeclaredMethods()) {
            if (!java.lang.reflect.Modifier.isPrivate(m.getModifiers())) {
                face.add(m);
            }
        }
        face.sort(Comparator.comparing(Method::getName));
        for (int seed = 0; seed < 80; seed++) {
            Check.about("edge run " + seed);
            oneRun(face, new Random(seed));
        }
    }

    private static void oneRun(List<Method> face, Random random) throws Exception {
        CounterDesk x = new CounterDesk();
        PlainDesk y = new PlainDesk();
        if (random.nextBoolean()) {
            x.terms(4, 2);
            y.terms(4, 2);
        }
        for (int call = 0; call < 510; call++) {
            Method m = face.get(random.nextInt(face.size()));
            if (OF_VOICES.contains(m.getName()) && (y.tooMany() || y.notes.size() > 6)) {
                continue;
            }
            Object[] args = new Object[m.getParameterCount()];
            for (int i = 0; i < args.length; i++) {
                args[i] = EDGES[random.nextInt(EDGES.length)];
            }
            long got = ((Number) m.invoke(x, args)).longValue();
            Check.due("call " + call + ", " + m.getName() + Arrays.toString(args), got, plain(y, m, args));
        }
    }

    private static long plain(PlainDesk y, Method m, Object[] args) throws Exception {
        switch (m.getName()) {
            case "status":
                return y.status;
            case "fault":
                return y.fault;
            case "stopped":
                return y.stopped;
            case "blots":
                return y.blots;
            case "feed":
                return y.feed(Arrays.stream(args).mapToInt(a -> (int) a).toArray());
            default:
                Method same = PlainDesk.class.getDeclaredMethod(m.getName(), m.getParameterTypes());
                return ((Number) same.invoke(y, args)).longValue();
        }
    }
}
