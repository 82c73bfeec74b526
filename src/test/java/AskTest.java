import java.util.Map;
import java.util.Random;
import java.util.TreeMap;

/** Promises 34 and 35: what is ASKED of the ROLL. */
public final class AskTest {
    private static final Checks C = new Checks();

    public static void main(String[] args) {
        answers();
        names();
        stays();
        keys();
        for (int seed = 0; seed < 60; seed++) {
            compared(new Random(seed));
        }
        C.finish();
    }

    private static WindowRoll town() {
        WindowRoll x = new WindowRoll();
        for (int h = 0; h < 4; h++) {
            x.house(h % 2, 10 * h, 1, 1);
            Checks.room(x, h, 0, 0, 1, 2 + h, -3);
        }
        Checks.act(x, 0, "from 1 pay 10;counts panes");
        Checks.act(x, 1, "from 1 pay worth;counts 1");
        x.walk(0, 0);
        x.walk(1, 1);
        x.go();
        x.walk(2, 0);
        x.look(3, 1);
        x.late(0, 0, 100);
        return x;
    }

    private static void is(WindowRoll x, int known, String text, long... due) {
        C.is(text, Checks.ask(x, known, text), due.length / 3);
        for (int i = 0; i < due.length; i++) {
            C.is(text + " answer " + i / 3 + " " + i % 3, x.answer(i / 3, i % 3), due[i]);
        }
        C.is(text + " no more", x.answer(due.length / 3, 1), 0);
    }

    private static void answers() {
        WindowRoll x = town();
        is(x, 0, "number", 0, 4, 4);
        is(x, 1, "number", 0, 7, 7);
        is(x, 1, "number where year=1", 0, 3, 3);
        is(x, 1, "number where year=2");
        is(x, 0, "sum count", 0, 3 + 4 + 5 + 6, 4);
        is(x, 1, "sum count", 0, 100 + 4 + 5 + 6 + 2 + 2 + 3, 7);
        is(x, 1, "least count by house", 0, 2, 2, 1, 3, 2, 2, 2, 2, 3, 6, 1);
        is(x, 1, "greatest count by house", 0, 100, 2, 1, 4, 2, 2, 5, 2, 3, 6, 1);
        is(x, 1, "sum 0-count where not(house=0) by collector", 0, -5, 1, 1, -10, 2, 2, -2, 1, 3, -3, 1);
        is(x, 1, "greatest 0-5", 0, -5, 7);
        is(x, 1, "least 5 where count=100 or count=6 and house=0", 0, 5, 1);
        is(x, 1, "sum 9999*9999*9999*9999*9 where count=2", 0, 9999L * 9999 * 9999 * 9999 * 18, 2);
        C.is("another YEAR", Checks.ask(x, 2, "number"), -2);
        C.is("the TAPE stays", x.count(6), 6);
        C.is("another YEAR", x.ask(-1), -2);
        C.is("the TAPE stays", x.count(6), 6);
        C.is("ask", x.ask(1), 1);
        C.is("empty", x.count(6), 0);
        C.is("what", x.answer(0, 3), 0);
        C.is("what", x.answer(0, -1), 0);
        C.is("i", x.answer(-1, 1), 0);
        C.is("i", x.answer(1, 1), 0);
        C.is("i", x.answer(Integer.MAX_VALUE, 1), 0);
    }

    private static void names() {
        WindowRoll x = town();
        is(x, 1, "number by collector", -1, 1, 1, 0, 1, 1, 1, 2, 2, 2, 2, 2, 3, 1, 1);
        is(x, 1, "number by how", 0, 5, 5, 1, 1, 1, 2, 1, 1);
        is(x, 1, "number by known", 0, 3, 3, 1, 4, 4);
        is(x, 1, "sum tax by year", 0, 1150, 4, 1, 70, 3);
        is(x, 1, "number by tax", 0, 1, 1, 30, 1, 1, 40, 2, 2, 50, 1, 1, 60, 1, 1, 1000, 1, 1);
        is(x, 1, "greatest worth by street", 0, 20, 4, 1, 30, 3);
        is(x, 1, "number by worth", 0, 2, 2, 10, 2, 2, 20, 2, 2, 30, 1, 1);
        is(x, 1, "number by count", 2, 2, 2, 3, 1, 1, 4, 1, 1, 5, 1, 1, 6, 1, 1, 100, 1, 1);
        is(x, 1, "sum house*1000+street*100+year*10+how where collector=3", 0, 1111, 1);
        x.down(0);
        x.worth(1, 7, 1);
        is(x, 1, "sum tax by house", 0, 1000, 2, 1, 40 + 21, 2, 2, 90, 2, 3, 60, 1);
        Checks.act(x, 0, "from 1 pay 1");
        is(x, 0, "sum tax", 0, 3 + 4 + 5 + 6, 4);
    }

    private static void stays() {
        WindowRoll x = town();
        is(x, 1, "sum count where house=3 by house", 3, 6, 1);
        C.is("a FAULT", Checks.ask(x, 1, "sum"), -4);
        C.is("the answers stay", x.answer(0, 0), 3);
        C.is("another YEAR", Checks.ask(x, 9, "sum count"), -2);
        C.is("the answers stay", x.answer(0, 1), 6);
        Checks.act(x, 9, "spare");
        x.go();
        C.is("the answers stay", x.answer(0, 2), 1);
        is(x, 1, "number where 1=2");
        C.is("none", x.answer(0, 2), 0);
    }

    /** More keys than can be told: the least ones are, with all that is of them. */
    private static void keys() {
        for (int way = 0; way < 3; way++) {
            WindowRoll x = new WindowRoll();
            x.house(0, 0, 1, 1);
            x.house(0, 0, 1, 1);
            x.house(0, 0, 1, 1);
            for (int y = 0; y < 99; y++) {
                x.go();
            }
            for (int i = 0; i < 230; i++) {
                int at = way == 0 ? i : way == 1 ? 229 - i : i * 7 % 230;
                x.late(at % 3, at / 3, at * 2);
            }
            C.is("keys", Checks.ask(x, 99, "sum count by count"), 200);
            for (int i = 0; i < 200; i++) {
                C.is("key", x.answer(i, 0), 2 * i);
                C.is("value", x.answer(i, 1), 2 * i);
            }
            C.is("no 201st", x.answer(200, 0), 0);
            C.is("no 201st", x.answer(200, 2), 0);
            x.late(0, 90, 398);
            x.late(1, 90, 400);
            C.is("keys", Checks.ask(x, 99, "number by count"), 200);
            C.is("of two", x.answer(199, 2), 2);
        }
    }

    /** Sums by keys, compared with those of all that roll() tells. */
    private static void compared(Random r) {
        WindowRoll x = new WindowRoll();
        for (int h = 0; h < 5; h++) {
            x.house(r.nextInt(3), r.nextInt(50), 1, 1);
            Checks.room(x, h, 0, 0, 1, 2, -3);
        }
        for (int i = 0; i < 120; i++) {
            int h = r.nextInt(5);
            switch (r.nextInt(6)) {
                case 0: x.walk(r.nextInt(4), r.nextInt(3)); break;
                case 1: x.look(r.nextInt(4), h); break;
                case 2: x.late(h, r.nextInt(1 + x.count(0)), r.nextInt(9)); break;
                case 3: x.go(); break;
                case 4: x.make(h, r.nextInt(3), r.nextInt(3)); break;
                default: x.late(h, Math.max(0, x.count(0) - 1), r.nextInt(9)); break;
            }
        }
        int known = r.nextInt(x.count(0) + 1);
        String[] by = {"count", "how", "collector", "known", "house", "year", "street"};
        for (int b = 0; b < by.length; b++) {
            TreeMap<Long, long[]> due = new TreeMap<>();
            for (int h = 0; h < 5; h++) {
                for (int y = 0; y <= x.count(0); y++) {
                    int count = x.roll(h, y, known, 0);
                    if (count > 2) {
                        long key = b < 4 ? x.roll(h, y, known, b) : b == 4 ? h : b == 5 ? y : x.houseOf(h, 0);
                        long[] told = due.computeIfAbsent(key, k -> new long[2]);
                        told[0] += count * 2 - h;
                        told[1]++;
                    }
                }
            }
            C.is("keys", Checks.ask(x, known, "sum count*2-house where count>2 by " + by[b]), due.size());
            int i = 0;
            for (Map.Entry<Long, long[]> d : due.entrySet()) {
                C.is("key", x.answer(i, 0), d.getKey());
                C.is("value", x.answer(i, 1), d.getValue()[0]);
                C.is("lines", x.answer(i, 2), d.getValue()[1]);
                i++;
            }
        }
    }
}
