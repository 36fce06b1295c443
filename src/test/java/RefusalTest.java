import java.lang.reflect.InvocationTargetException;
import java.lang.reflect.Method;
import java.util.ArrayList;
import java.util.Arrays;
import java.util.Comparator;
import java.util.List;
import java.util.Random;
import java.util.Set;

/** Wild arguments for every call: none throws; what is refused is counted by its number and changes nothing. */
public final class RefusalTest {
    private static final Check check = new Check();
    private static final long[] EDGES = {0, 1, 2, 3, 4, 5, 7, 8, 9, 10, 39, 40, 41, 99, 100, 101, 150, 600, 601, -1, -2,
        Integer.MAX_VALUE, Integer.MIN_VALUE, Long.MAX_VALUE, Long.MIN_VALUE};
    private static final Set<String> TELL_GAINS = Set.of("gains", "two", "shifts", "changeNow", "meets", "match", "pull",
        "minutes", "penalty", "game");
    private static final Set<String> NEVER_REFUSED = Set.of("element", "holds", "wipe", "power", "seed", "image", "status");
    private static final String[] RINKS = {"player 3 95 1", "line 0 0", "line 1 0 1 2", "on 0", "on 0;skate 9;third 3",
        "half 1;theirs 7;player 5 66 3", "player 0 1", "line 3 9"};

    public static void main(String[] args) throws ReflectiveOperationException {
        Method[] calls = OverTheBoards.class.getDeclaredMethods();
        List<Method> open = new ArrayList<>();
        for (Method m : calls) if ((m.getModifiers() & 1) == 1) open.add(m);
        open.sort(Comparator.comparing(Method::getName));
        for (int run = 0; run < 60; run++) {
            Random random = new Random(run);
            OverTheBoards x = new OverTheBoards();
            for (int i = 0; i < 300; i++) {
                if (random.nextInt(6) == 0) Check.feed(x, RINKS[random.nextInt(RINKS.length)]);
                if (x.status(17) > 0) x.rink();
                one(x, open.get(random.nextInt(open.size())), random);
            }
        }
        check.end("RefusalTest");
    }

    private static Object[] arguments(Method m, Random random) {
        Object[] values = new Object[m.getParameterCount()];
        for (int i = 0; i < values.length; i++) {
            long v = random.nextInt(3) == 0 ? EDGES[random.nextInt(EDGES.length)] : random.nextInt(7) - 1;
            if (m.getParameterTypes()[i] == long.class) values[i] = v;
            else values[i] = (int) v;
        }
        return values;
    }

    private static void one(OverTheBoards x, Method m, Random random) throws IllegalAccessException {
        Object[] values = arguments(m, random);
        String call = m.getName() + Arrays.toString(values);
        int[] counts = counts(x);
        List<Long> ahead = state(x);
        long answer;
        try {
            answer = ((Number) m.invoke(x, values)).longValue();
        } catch (InvocationTargetException e) {
            check.due(call + " threw " + e.getCause(), 1, 0);
            return;
        }
        int[] then = counts(x);
        int refused = 0;
        for (int i = 0; i < 5; i++) {
            if (then[i] == counts[i]) continue;
            refused++;
            check.due("count by " + call, then[i], counts[i] + 1);
            int from = TELL_GAINS.contains(m.getName()) ? -1000000000 : 0;
            check.due(call, answer, m.getName().equals("rink") ? -20 : from - 2 - i);
        }
        check.due("refusals of " + call, refused <= (NEVER_REFUSED.contains(m.getName()) ? 0 : 1) ? 1 : 0, 1);
        if (refused == 1) check.due("the same behind " + call, ahead.equals(state(x)) ? 1 : 0, 1);
    }

    private static int[] counts(OverTheBoards x) {
        int[] counts = new int[5];
        for (int i = 0; i < 5; i++) counts[i] = x.status(12 + i);
        return counts;
    }

    private static List<Long> state(OverTheBoards x) {
        List<Long> all = new ArrayList<>();
        for (int i = 0; i < 20; i++) if (i < 12 || i > 16) all.add((long) x.status(i));
        for (int p = 0; p < x.status(0); p++) for (int w = 0; w < 6; w++) all.add((long) x.playerOf(p, w));
        for (int l = 0; l < 4; l++) all.add((long) x.lineOf(l, 0));
        for (int s = 0; s < 8; s++) {
            all.add((long) x.holds(s));
            for (int i = 0; i < 40; i++) all.add(x.element(s, i));
        }
        return all;
    }
}
