import java.lang.reflect.Array;
import java.lang.reflect.Field;
import java.lang.reflect.Method;
import java.lang.reflect.Modifier;
import java.util.ArrayDeque;
import java.util.Arrays;
import java.util.Comparator;
import java.util.IdentityHashMap;
import java.util.Map;
import java.util.Random;

/** No call throws or fails to end, whatever its arguments, in any state; the same calls answer the same. */
public final class AnyCallTest {
    private static final Checks C = new Checks();
    private static final int[] EDGES = {Integer.MIN_VALUE, -1000000, -2, -1, 0, 1, 2, 3, 4, 5, 6, 9, 10, 11, 12,
        15, 16, 17, 20, 30, 31, 50, 51, 59, 60, 61, 99, 100, 199, 200, 300, 500, 501, 1000, 1001, 10000, 10001,
        Integer.MAX_VALUE};
    private static final String[] WORDS = {"from", "1", "pay", "add", "counts", "part", "spare", "apart", "when",
        "or", "and", "not", "(", ")", "lesser", "greater", "worth", "families", "street", "rooms", "openings",
        "year", "count", "panes", "kind", "floor", "back", "lattice", "house", "known", "how", "collector", "tax",
        "number", "sum", "least", "greatest", "where", "by", "+", "-", "*", "/", "<", ">", "=", ";", ",", "9999",
        "10000", "0", "#", "\n"};

    public static void main(String[] args) throws Exception {
        Method[] calls = calls();
        C.is("methods of the face", calls.length, 46);
        for (int seed = 0; seed < 3000; seed++) {
            run(calls, seed);
        }
        room();
        C.finish();
    }

    private static Method[] calls() {
        Method[] all = Arrays.stream(WindowRoll.class.getDeclaredMethods())
            .filter(m -> Modifier.isPublic(m.getModifiers())).toArray(Method[]::new);
        Arrays.sort(all, Comparator.comparing(Method::getName));
        return all;
    }

    private static void run(Method[] calls, int seed) throws Exception {
        Random r = new Random(seed);
        WindowRoll x = new WindowRoll();
        WindowRoll y = new WindowRoll();
        int wild = seed % 4 == 0 ? 2 : 12;
        if (seed % 3 != 0) {
            settle(x, new Random(seed));
            settle(y, new Random(seed));
        }
        for (int i = 0; i < 400; i++) {
            Method m = calls[r.nextInt(calls.length)];
            if (m.getName().equals("feed") && r.nextInt(3) > 0) {
                String text = text(r);
                Checks.tape(x, text);
                Checks.tape(y, text);
                continue;
            }
            Object[] a = arguments(m, r, wild);
            Object got = m.invoke(x, a);
            C.is(m.getName(), got.equals(m.invoke(y, a)), true);
        }
        C.is("objects", reached(x)[0] < 1000, true);
        C.is("fields and elements", reached(x)[1] < 40000, true);
    }

    private static Object[] arguments(Method m, Random r, int wild) {
        Class<?>[] types = m.getParameterTypes();
        Object[] a = new Object[types.length];
        for (int k = 0; k < a.length; k++) {
            int v = r.nextInt(wild) == 0 ? EDGES[r.nextInt(EDGES.length)] : r.nextInt(r.nextBoolean() ? 4 : 20);
            if (types[k] == boolean.class) {
                a[k] = r.nextBoolean();
            } else if (types[k] == long.class) {
                a[k] = r.nextInt(8) == 0 ? r.nextLong() : (long) v;
            } else {
                a[k] = v;
            }
        }
        return a;
    }

    private static void settle(WindowRoll x, Random r) {
        for (int h = 0; h < 16; h++) {
            x.house(r.nextInt(2), r.nextInt(100), 1 + r.nextInt(4), 1 + r.nextInt(20));
            Checks.room(x, h, r.nextInt(4), r.nextInt(6), 1 + r.nextInt(30), 101, -5, -120);
        }
        Checks.act(x, r.nextInt(3), "from 1 pay 3;counts panes/4;from 4 add count;spare when rooms=2");
    }

    private static String text(Random r) {
        if (r.nextInt(3) == 0) {
            String[] good = {"from 1 pay worth/5;counts 1+back", "number by year", "sum tax where count>1 by house",
                "apart when families>1;from 2 pay 1", "counts year-panes;part 50 when count>3;from 1 add 7"};
            return good[r.nextInt(good.length)];
        }
        StringBuilder s = new StringBuilder();
        for (int n = r.nextInt(40); n > 0; n--) {
            s.append(WORDS[r.nextInt(WORDS.length)]).append(r.nextBoolean() ? " " : "");
        }
        return s.length() > 300 ? s.substring(0, 300) : s.toString();
    }

    /** Many plans and texts must not make more and more objects. */
    private static void room() throws Exception {
        WindowRoll x = new WindowRoll();
        long[] fresh = reached(x);
        C.is("a new one's objects", fresh[0] < 150, true);
        C.is("a new one's fields and elements", fresh[1] < 14000, true);
        settle(x, new Random(1));
        for (int i = 0; i < 300; i++) {
            x.plan(i % 16, 1 + i % 10);
            Checks.act(x, i % 20, "from 1 pay 1");
            Checks.ask(x, 0, "number");
            Checks.beside(x, 10, i % 5, "from 1 pay 5");
            x.row(0, 3, 60);
            x.match(0, 0, 5);
            x.route(0, 500);
        }
        long[] behind = reached(x);
        C.is("objects", behind[0] < 1000, true);
        C.is("fields and elements", behind[1] < 40000, true);
    }

    /** How many objects and arrays, and how many fields and elements, are reached from one. */
    private static long[] reached(Object root) throws Exception {
        Map<Object, Boolean> seen = new IdentityHashMap<>();
        ArrayDeque<Object> left = new ArrayDeque<>();
        left.add(root);
        seen.put(root, true);
        long parts = 0;
        while (!left.isEmpty()) {
            Object o = left.poll();
            if (o.getClass().isArray()) {
                parts += Array.getLength(o);
                if (o instanceof Object[] all) {
                    for (Object e : all) {
                        reach(e, seen, left);
                    }
                }
                continue;
            }
            for (Field f : o.getClass().getDeclaredFields()) {
                if (!Modifier.isStatic(f.getModifiers())) {
                    parts++;
                    f.setAccessible(true);
                    if (!f.getType().isPrimitive()) {
                        reach(f.get(o), seen, left);
                    }
                }
            }
        }
        return new long[] {seen.size(), parts};
    }

    private static void reach(Object o, Map<Object, Boolean> seen, ArrayDeque<Object> left) {
        if (o != null && !(o instanceof Enum) && seen.put(o, true) == null) {
            left.add(o);
        }
    }
}
