import java.lang.reflect.Method;
import java.lang.reflect.Modifier;
import java.nio.charset.StandardCharsets;
import java.util.Arrays;
import java.util.Comparator;
import java.util.function.ToLongBiFunction;
import java.util.function.ToLongFunction;

/** What the tests share: answers compared with those that are due, and texts put on the TAPE. */
final class Checks {
    private int wrong = 0;
    private int made = 0;
    private String under = "";

    void is(String call, long got, long due) {
        made++;
        if (got != due) {
            wrong++;
            if (wrong <= 40) {
                System.out.println(under + call + " answered " + got + ", due is " + due);
            }
        }
    }

    void is(String call, boolean got, boolean due) {
        is(call, got ? 1 : 0, due ? 1 : 0);
    }

    void finish() {
        System.out.println(made + " answers, " + wrong + " not as due");
        if (wrong != 0 || made == 0) {
            System.exit(1);
        }
    }

    /** Runs each test of a class: its methods that take nothing. What fails is told with the test's name. */
    void runAll(Class<?> tests) throws Exception {
        Method[] all = tests.getDeclaredMethods();
        Arrays.sort(all, Comparator.comparing(Method::getName));
        for (Method test : all) {
            if (test.getParameterCount() == 0 && Modifier.isStatic(test.getModifiers())
                    && test.getReturnType() == void.class && !test.isSynthetic()) {
                under = test.getName() + ": ";
                int before = made;
                test.setAccessible(true);
                test.invoke(null);
                is("compared anything", made > before, true);
            }
        }
        under = "";
        finish();
    }

    /** A call that is refused: its answer is due, and nothing that any call tells is other than without it. */
    void refused(Towns town, String call, ToLongFunction<WindowRoll> done, long due) {
        refused(town, call, done, due, false);
    }

    /** A call that is refused for one argument, with each of the numbers beyond those that are allowed for it. */
    void beyond(Towns town, String name, int least, int greatest, ToLongBiFunction<WindowRoll, Integer> done, long due) {
        for (int none : beyond(least, greatest)) {
            refused(town, name + " " + none, x -> done.applyAsLong(x, none), due);
        }
    }

    /** A call that is refused for a FAULT: the TAPE is empty and fault() may be another one, all else stays. */
    void faulty(Towns town, String call, ToLongFunction<WindowRoll> done, long due) {
        refused(town, call, done, due, true);
    }

    private void refused(Towns town, String call, ToLongFunction<WindowRoll> done, long due, boolean read) {
        for (int part = 0; part < Probe.PARTS; part++) {
            WindowRoll x = town.make();
            is(call, done.applyAsLong(x), due);
            long[] got = Probe.part(x, part);
            if (!read || part != Probe.FAULT) {
                is(call + " left part " + part, Arrays.mismatch(got, Probe.known(town, read, part)), -1);
            }
        }
    }

    /** The numbers just beyond those that are allowed, and the most distant ones. */
    static int[] beyond(int least, int greatest) {
        return new int[] {Integer.MIN_VALUE, least - 1, greatest + 1, Integer.MAX_VALUE};
    }

    /** Empties the TAPE and puts a text on it. */
    static void tape(WindowRoll x, String text) {
        tape(x, text.getBytes(StandardCharsets.ISO_8859_1));
    }

    static void tape(WindowRoll x, byte[] bytes) {
        x.end(0);
        for (int at = 0; at < bytes.length; at += 20) {
            int[] w = new int[5];
            for (int i = 0; i < 20; i++) {
                int b = at + i < bytes.length ? bytes[at + i] & 255 : ' ';
                w[i / 4] = w[i / 4] << 8 | b;
            }
            x.feed(w[0], w[1], w[2], w[3], w[4]);
        }
        x.end(bytes.length);
    }

    static int act(WindowRoll x, int from, String text) {
        tape(x, text);
        return x.act(from);
    }

    static int ask(WindowRoll x, int known, String text) {
        tape(x, text);
        return x.ask(known);
    }

    static long beside(WindowRoll x, int years, int what, String text) {
        tape(x, text);
        return x.beside(years, what);
    }

    static void go(WindowRoll x, int years) {
        for (int y = 0; y < years; y++) {
            x.go();
        }
    }

    /** Lays a row of numbers of 8 bytes. */
    static void row(WindowRoll x, int place, long... numbers) {
        x.row(place, 3, numbers.length);
        for (int i = 0; i < numbers.length; i++) {
            x.write(place, i, numbers[i]);
        }
    }

    /** A ROOM with these OPENINGS, by way of PLACE 3. */
    static int room(WindowRoll x, int house, int kind, int floor, long... openings) {
        row(x, 3, openings);
        return x.room(house, kind, floor, 3);
    }

    /** An object with one HOUSE (STREET 0, WORTH 0, a family, a minute) of one ROOM with these OPENINGS. */
    static WindowRoll oneRoom(long... openings) {
        WindowRoll x = new WindowRoll();
        x.house(0, 0, 1, 1);
        room(x, 0, 0, 0, openings);
        return x;
    }
}
