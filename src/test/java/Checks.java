import java.nio.charset.StandardCharsets;

/** What the tests share: answers compared with those that are due, and texts put on the TAPE. */
final class Checks {
    private int wrong = 0;
    private int made = 0;

    void is(String call, long got, long due) {
        made++;
        if (got != due) {
            wrong++;
            if (wrong <= 40) {
                System.out.println(call + " answered " + got + ", due is " + due);
            }
        }
    }

    void is(String call, boolean got, boolean due) {
        is(call, got ? 1 : 0, due ? 1 : 0);
    }

    void finish() {
        System.out.println(made + " answers, " + wrong + " not as due");
        if (wrong != 0 || made == 0) {
            System.exit(1);
        }
    }

    /** Empties the TAPE and puts a text on it. */
    static void tape(WindowRoll x, String text) {
        tape(x, text.getBytes(StandardCharsets.ISO_8859_1));
    }

    static void tape(WindowRoll x, byte[] bytes) {
        x.end(0);
        for (int at = 0; at < bytes.length; at += 20) {
            int[] w = new int[5];
            for (int i = 0; i < 20; i++) {
                int b = at + i < bytes.length ? bytes[at + i] & 255 : ' ';
                w[i / 4] = w[i / 4] << 8 | b;
            }
            x.feed(w[0], w[1], w[2], w[3], w[4]);
        }
        x.end(bytes.length);
    }

    static int act(WindowRoll x, int from, String text) {
        tape(x, text);
        return x.act(from);
    }

    static int ask(WindowRoll x, int known, String text) {
        tape(x, text);
        return x.ask(known);
    }

    static long beside(WindowRoll x, int years, int what, String text) {
        tape(x, text);
        return x.beside(years, what);
    }

    /** Lays a row of numbers of 8 bytes. */
    static void row(WindowRoll x, int place, long... numbers) {
        x.row(place, 3, numbers.length);
        for (int i = 0; i < numbers.length; i++) {
            x.write(place, i, numbers[i]);
        }
    }

    /** A ROOM with these OPENINGS, by way of PLACE 3. */
    static int room(WindowRoll x, int house, int kind, int floor, long... openings) {
        row(x, 3, openings);
        return x.room(house, kind, floor, 3);
    }
}
