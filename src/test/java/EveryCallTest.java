import java.lang.reflect.InvocationTargetException;
import java.lang.reflect.Method;
import java.lang.reflect.Modifier;
import java.util.Arrays;
import java.util.Comparator;
import java.util.Random;
import java.util.function.Consumer;
import java.util.function.Supplier;

/**
 * Promises 1 to 47: no call throws or fails to end, with the edges of what may be told as its arguments, in each
 * kind of state; and the last line of "What it is": an object is used for 512 calls.
 */
public final class EveryCallTest {
    private static final Checks C = new Checks();
    private static final int MOST_CALLS = 512;
    private static final int MOST_WAYS = 3000;
    private static final int[] EDGES = {0, 1, -1, 2, 3, 4, 5, 9, 10, 15, 16, 60, 61, 99, 100, 300, 1000, 1001,
        Integer.MAX_VALUE, Integer.MIN_VALUE};
    private static final long[] LONGS = {0, 1, -1, 105, -130, 10000, 10001, 1L << 31, 1L << 32, Long.MAX_VALUE,
        Long.MIN_VALUE};

    public static void main(String[] args) throws Exception {
        watcher().start();
        C.runAll(EveryCallTest.class);
    }

    /** A call that does not end must not hold the tests up for good. */
    private static Thread watcher() {
        Thread watcher = new Thread(() -> {
            try {
                Thread.sleep(300_000);
            } catch (InterruptedException e) {
                return;
            }
            System.out.println("a call does not end");
            Runtime.getRuntime().halt(1);
        });
        watcher.setDaemon(true);
        return watcher;
    }

    private static void anyArgumentsOfNew() throws Exception {
        anyArguments("a new object", WindowRoll::new);
    }

    private static void anyArgumentsOfTown() throws Exception {
        anyArguments("a town", Towns.TOWN::make);
    }

    private static void anyArgumentsOfFull() throws Exception {
        anyArguments("a full one", Towns.FULL::make);
    }

    private static void anyArgumentsOfCentury() throws Exception {
        anyArguments("the last YEAR", Towns.CENTURY::make);
    }

    private static void anyArguments(String state, Supplier<WindowRoll> made) throws Exception {
        Method[] calls = WindowRoll.class.getDeclaredMethods();
        Arrays.sort(calls, Comparator.comparing(Method::getName));
        for (Method call : calls) {
            if (Modifier.isPublic(call.getModifiers())) {
                anyArguments(state, made, call);
            }
        }
    }

    private static void anyArguments(String state, Supplier<WindowRoll> made, Method call) throws Exception {
        Class<?>[] types = call.getParameterTypes();
        Random r = new Random(call.getName().hashCode());
        long all = 1;
        for (Class<?> type : types) {
            all *= edges(type);
        }
        boolean each = all <= MOST_WAYS;
        WindowRoll x = made.get();
        for (int way = 0; way < (each ? all : MOST_WAYS); way++) {
            if (way % 150 == 149) {
                x = made.get();
            }
            long rest = way;
            Object[] a = new Object[types.length];
            for (int k = 0; k < a.length; k++) {
                int n = edges(types[k]);
                a[k] = edge(types[k], each ? (int) (rest % n) : r.nextInt(n));
                rest /= n;
            }
            C.is(state + ": " + call.getName() + Arrays.toString(a) + " ended", ends(x, call, a), true);
        }
    }

    private static int edges(Class<?> type) {
        return type == boolean.class ? 2 : type == long.class ? LONGS.length : EDGES.length;
    }

    private static Object edge(Class<?> type, int i) {
        if (type == boolean.class) {
            return i == 1;
        }
        if (type == long.class) {
            return LONGS[i];
        }
        return EDGES[i];
    }

    private static boolean ends(WindowRoll x, Method call, Object[] a) throws Exception {
        try {
            call.invoke(x, a);
            return true;
        } catch (InvocationTargetException e) {
            System.out.println(e.getCause());
            return false;
        }
    }

    /** "An object is used for at most 512 calls after it has been made": to the last one roofs join and part. */
    private static void callsOfRoof() {
        WindowRoll x = new WindowRoll();
        x.house(0, 0, 1, 1);
        x.house(0, 0, 1, 1);
        for (int call = 3; call <= MOST_CALLS; call++) {
            C.is("call " + call, x.roof(call % 2, 1 - call % 2), call % 2);
        }
    }

    /** "At most 512 calls": 170 ACTS in place of one another. */
    private static void callsOfAct() {
        WindowRoll x = new WindowRoll();
        for (int call = 3; call <= MOST_CALLS; call += 3) {
            x.feed(0x73706172, 0x653b6170, 0x61727420, 0x20202020, 0x20202020);
            x.end(call % 2 == 0 ? 11 : 5);
            C.is("call " + call, x.act(call % 11), call % 2 == 0 ? 2 : 1);
        }
        C.is("ACTS", x.count(2), 11);
    }

    /** "At most 512 calls": PLANS that are done, one after the other. */
    private static void callsOfPlan() {
        WindowRoll x = Checks.oneRoom(30, 30, 30, 30, 30, 30, 30, 30, 30, 30);
        x.light(0, 50, 200);
        for (int call = 17; call <= MOST_CALLS; call += 2) {
            C.is("call " + call, x.plan(0, 10), 100000);
            C.is("owner", x.owner(), 0);
        }
    }

    /** "At most 512 calls": appeals and what falls, till there are 60 CASES. */
    private static void callsOfAppeal() {
        WindowRoll x = Checks.oneRoom(1);
        for (int c = 0; c < 60; c++) {
            C.is("appeal", x.appeal(0, 0), 0);
            C.is("overrule", x.overrule(c), 1);
        }
        for (int call = 126; call <= MOST_CALLS; call++) {
            C.is("call " + call, x.appeal(0, 0), -3);
        }
    }

    /** "At most 512 calls": LINES, and what is ASKED of them. */
    private static void callsOfAsk() {
        WindowRoll x = new WindowRoll();
        x.house(0, 0, 1, 1);
        x.go();
        for (int call = 6; call <= MOST_CALLS; call += 4) {
            x.feed(0x73756d20, 0x636f756e, 0x74202020, 0x20202020, 0x20202020);
            x.late(0, 0, call);
            C.is("call " + call, x.ask(1), 1);
            C.is("the COUNT", x.answer(0, 1), call);
        }
    }

    /** "At most 512 calls": texts that are as long as can be, each read anew. */
    private static void callsOfLongTexts() {
        WindowRoll x = new WindowRoll();
        x.house(0, 0, 1, 1);
        x.walk(0, 0);
        for (int text = 0; text < 27; text++) {
            C.is("ask", Checks.ask(x, 0, "sum " + "1+".repeat(140) + text), 1);
            C.is("answer", x.answer(0, 1), 140 + text);
        }
    }

    /** "At most 512 calls": rows that are laid, MATCHED and torn. */
    private static void callsOfRow() {
        WindowRoll x = new WindowRoll();
        for (int call = 4; call <= MOST_CALLS; call += 4) {
            C.is("row", x.row(call % 3, call / 4 % 4, 60), 0);
            C.is("paste", x.paste(call % 3, 0, call % 3, 30, 30), 0);
            C.is("match", x.match(call % 3, call % 3, 5), 0);
            C.is("tear", x.tear(call % 3), true);
        }
    }

    /** "What later calls answer is free": but they end. */
    private static void laterCalls() {
        WindowRoll x = Towns.TOWN.make();
        for (int call = 0; call < 3000; call++) {
            x.look(call % 4, call % 3);
            x.roof(call % 3, (call + 1) % 3);
            x.appeal(0, call % 4);
            x.plan(call % 3, 1 + call % 10);
            x.owner();
        }
        C.is("it is there", x.count(1), 4);
    }

    /** How many bytes the calls of one run make: far fewer than the room has fields and elements. */
    private static void roomOfCalls() {
        makes("new objects", x -> new WindowRoll(), 40_000_000);
        makes("light, terms", x -> x.light(0, x.terms(1, 1, 1, 1), 5), 100_000);
        makes("room, make, worth", x -> x.make(0, x.room(0, 0, 0, 0), x.worth(0, 1, 1)), 100_000);
        makes("roof, down", x -> x.roof(0, x.down(2) ? 1 : 2), 100_000);
        makes("act", x -> x.act(x.feed(0x61706172, 0x74202020, 0x20202020, 0x20202020, 0x20202020) % 11), 150_000);
        makes("weight, counted, tax, due", x -> x.tax(0, x.weight(0, 0, 0), x.counted(0, 0, 0)), 100_000);
        makes("plan, owner", x -> x.plan(0, 10 + x.owner()), 300_000);
        makes("held, nearest, appeal", x -> x.held(0, x.nearest(0, 0), 0, true, true, x.appeal(0, 0) > 0), 150_000);
        makes("overrule, heldOf", x -> x.heldOf(x.overrule(0), 0), 100_000);
        makes("walk, look, late, go", x -> x.walk(x.look(0, 0), x.late(0, (int) x.go(), 0)), 100_000);
        makes("route, roll, span, habit", x -> x.roll(x.route(0, 500), x.span(0, 0, 0, 0), x.habit(0, 1, 0), 0),
            150_000);
        makes("ask, answer", x -> x.answer(x.ask(0), x.feed(0x6e756d62, 0x65722020, 0x20202020, 0, 0)), 100_000);
        makes("match, matched", x -> x.matched(x.match(0, 1, 1)), 150_000);
        makes("beside", x -> x.beside(10, x.feed(0x61706172, 0x74202020, 0x20202020, 0x20202020, 0x20202020) / 20),
            300_000);
        makes("row, write, paste, tear", x -> x.tear(x.row(1, 1, 60) + x.write(1, 0, 1) + x.paste(1, 0, 1, 1, 9)),
            100_000);
    }

    private static void makes(String calls, Consumer<WindowRoll> done, long most) {
        com.sun.management.ThreadMXBean threads =
            (com.sun.management.ThreadMXBean) java.lang.management.ManagementFactory.getThreadMXBean();
        WindowRoll x = Towns.TOWN.make();
        done.accept(Towns.TOWN.make());
        long before = threads.getCurrentThreadAllocatedBytes();
        for (int call = 0; call < MOST_CALLS; call++) {
            done.accept(x);
        }
        long made = threads.getCurrentThreadAllocatedBytes() - before;
        C.is(calls + " make " + made + " bytes: no more than " + most, made <= most, true);
    }
}
