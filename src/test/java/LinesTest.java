import java.util.Random;

/** Promises 26 to 33, 39 and 42: collectors, the ROLL in two times, what is paid, THE SPAN. */
public final class LinesTest {
    private static final Checks C = new Checks();

    public static void main(String[] args) {
        walks();
        looks();
        lates();
        full();
        years();
        roofs();
        rolls();
        habits();
        spans();
        heaps();
        routes();
        for (int seed = 0; seed < 300; seed++) {
            comparedRoute(new Random(seed));
            comparedSpan(new Random(seed));
        }
        C.finish();
    }

    private static WindowRoll town() {
        WindowRoll x = new WindowRoll();
        x.house(1, 10, 1, 1);
        x.house(0, 20, 1, 1);
        x.house(1, 30, 1, 1);
        for (int h = 0; h < 3; h++) {
            Checks.room(x, h, 0, 0, 1, 2, -3, -4);
        }
        Checks.act(x, 0, "from 1 pay 1;counts panes");
        return x;
    }

    private static void walks() {
        WindowRoll x = town();
        C.is("collector", x.walk(-1, 0), -2);
        C.is("collector", x.walk(4, 0), -2);
        C.is("street", x.walk(0, -1), -2);
        C.is("street", x.walk(0, 4), -2);
        x.make(2, 1, 2);
        C.is("walk", x.walk(3, 1), 2);
        C.is("lines", x.count(5), 2);
        C.is("seen", x.roll(0, 0, 0, 0), 3);
        C.is("seen, not boarded", x.roll(2, 0, 0, 0), 1);
        C.is("not in the STREET", x.roll(1, 0, 0, 0), -1);
        C.is("how", x.roll(2, 0, 0, 1), 0);
        C.is("collector", x.roll(2, 0, 0, 2), 3);
        C.is("known", x.roll(2, 0, 0, 3), 0);
        C.is("again", x.walk(3, 1), -9);
        C.is("another STREET", x.walk(3, 0), 1);
        C.is("another collector", x.walk(2, 1), 2);
        C.is("an empty STREET", x.walk(3, 3), 0);
        C.is("an empty STREET, again", x.walk(3, 3), -9);
        x.down(0);
        x.go();
        C.is("the next YEAR, not DOWN", x.walk(3, 1), 1);
        C.is("not DOWN", x.roll(0, 1, 1, 0), -1);
        C.is("lines", x.count(5), 6);
    }

    private static void looks() {
        WindowRoll x = town();
        C.is("collector", x.look(-1, 0), -1000000);
        C.is("collector", x.look(4, 0), -1000000);
        C.is("house", x.look(0, -1), -1000000);
        C.is("house", x.look(0, 3), -1000000);
        C.is("not on it", x.look(0, 1), 0);
        C.is("count", x.roll(1, 0, 0, 0), 10);
        C.is("how", x.roll(1, 0, 0, 1), 1);
        C.is("collector", x.roll(1, 0, 0, 2), 0);
        x.walk(0, 1);
        x.make(0, 3, 2);
        x.make(0, 1, 1);
        C.is("above", x.look(3, 0), 8 - 3);
        C.is("the latest tells", x.roll(0, 0, 0, 2), 3);
        x.make(0, 0, 1);
        C.is("below", x.look(3, 0), 7 - 8);
        x.go();
        C.is("not on this YEAR's", x.look(3, 0), 0);
        x.down(0);
        C.is("DOWN", x.look(3, 0), -1000000);
        C.is("lines", x.count(5), 6);
    }

    private static void lates() {
        WindowRoll x = town();
        C.is("this YEAR", x.late(0, 0, 0), -2);
        x.go();
        x.go();
        C.is("house", x.late(-1, 0, 0), -2);
        C.is("house", x.late(3, 0, 0), -2);
        C.is("year", x.late(0, -1, 0), -2);
        C.is("year", x.late(0, 2, 0), -2);
        C.is("count", x.late(0, 0, -1), -2);
        C.is("count", x.late(0, 0, 1001), -2);
        C.is("late", x.late(0, 0, 0), 0);
        C.is("late", x.late(0, 1, 1000), 0);
        C.is("count", x.roll(0, 1, 2, 0), 1000);
        C.is("how", x.roll(0, 1, 2, 1), 2);
        C.is("collector", x.roll(0, 1, 2, 2), -1);
        C.is("known", x.roll(0, 1, 2, 3), 2);
        C.is("count", x.roll(0, 0, 2, 0), 0);
        C.is("not known then", x.roll(0, 0, 1, 0), -1);
    }

    private static void full() {
        WindowRoll x = new WindowRoll();
        for (int h = 0; h < 16; h++) {
            x.house(h == 15 ? 1 : 0, 0, 1, 1);
        }
        for (int i = 0; i < 79; i++) {
            if (i % 4 == 0 && i > 0) {
                x.go();
            }
            C.is("walk", x.walk(i % 4, 0), 15);
        }
        C.is("lines", x.count(5), 1185);
        C.is("walk", x.walk(0, 1), 1);
        C.is("no room for them", x.walk(3, 0), -3);
        C.is("not walked", x.walk(3, 0), -3);
        C.is("lines", x.count(5), 1186);
        for (int i = 0; i < 13; i++) {
            C.is("look", x.look(0, i), 0);
        }
        C.is("the last one", x.late(0, 0, 0), 0);
        C.is("lines", x.count(5), 1200);
        C.is("no room", x.look(0, 0), -1000003);
        C.is("no room", x.late(0, 0, 0), -3);
        C.is("not as told comes first", x.late(0, 99, 0), -2);
        C.is("not as told comes first", x.look(0, 16), -1000000);
        C.is("no room", x.walk(1, 1), -3);
        C.is("walked comes first", x.walk(0, 1), -9);
        C.is("none need no room", x.walk(0, 2), 0);
        C.is("lines", x.count(5), 1200);
        C.is("roll", x.roll(14, 19, 19, 0), 0);
    }

    private static void years() {
        WindowRoll x = town();
        C.is("nothing on it", x.go(), 0);
        C.is("year", x.count(0), 1);
        x.walk(0, 1);
        C.is("go", x.go(), 6);
        C.is("paid", x.paid(0), 3);
        C.is("paid", x.paid(1), 0);
        C.is("paid", x.paid(2), 3);
        C.is("paid", x.paid(3), -2);
        C.is("paid", x.paid(-1), -2);
        x.late(0, 0, 500);
        C.is("the latest YEAR tells", x.go(), 6);
        x.look(0, 0);
        x.late(1, 2, 7);
        C.is("this YEAR's tells", x.go(), 10 + 7 + 3);
        x.late(1, 2, 8);
        x.down(2);
        C.is("the latest LINE tells, DOWN pays nothing", x.go(), 10 + 8);
        C.is("paid", x.paid(2), 9);
        x.down(0);
        C.is("paid stays", x.paid(0), 26);
        for (int y = 5; y < 99; y++) {
            C.is("go", x.go(), 8);
        }
        C.is("99 it is", x.go(), -9);
        C.is("year", x.count(0), 99);
        C.is("nothing was paid", x.paid(1), 7 + 8 + 94 * 8);
        C.is("walk", x.walk(0, 0), 1);
        C.is("roll", x.roll(1, 99, 99, 0), 3);
    }

    private static void roofs() {
        WindowRoll x = town();
        Checks.act(x, 0, "from 1 pay worth;apart when worth=20");
        x.roof(0, 2);
        x.walk(0, 0);
        x.walk(0, 1);
        C.is("together, by the least", x.go(), 10 * 4 + 20 * 2);
        C.is("paid", x.paid(0), 40);
        C.is("paid", x.paid(2), 0);
        x.roof(0, 2);
        x.roof(1, 2);
        C.is("apart: each by itself", x.go(), 20 + 40 + 60);
        C.is("paid", x.paid(2), 60);
        x.roof(0, 1);
        x.worth(0, 20, 1);
        C.is("apart: each by itself", x.go(), 40 + 40 + 60);
        x.worth(0, 10, 1);
        C.is("not apart of the least", x.go(), 10 * 6);
        x.down(0);
        C.is("the next one is the least", x.go(), 40 + 60);
    }

    private static void rolls() {
        WindowRoll x = town();
        x.walk(0, 0);
        x.go();
        x.late(1, 0, 50);
        x.go();
        x.late(1, 0, 60);
        C.is("known 0", x.roll(1, 0, 0, 0), 2 + 1);
        C.is("known 1", x.roll(1, 0, 1, 0), 50);
        C.is("known 2", x.roll(1, 0, 2, 0), 60);
        C.is("known 2", x.roll(1, 0, 2, 3), 2);
        C.is("known 1", x.roll(1, 0, 1, 3), 1);
        C.is("known 3", x.roll(1, 0, 3, 0), -1);
        C.is("known -1", x.roll(1, 0, -1, 0), -1);
        C.is("year", x.roll(1, -1, 0, 0), -1);
        C.is("year", x.roll(1, 100, 0, 0), -1);
        C.is("house", x.roll(-1, 0, 0, 0), -1);
        C.is("house", x.roll(3, 0, 0, 0), -1);
        C.is("what", x.roll(1, 0, 0, 4), -1);
        C.is("what", x.roll(1, 0, 0, -1), -1);
        C.is("nothing", x.roll(1, 1, 2, 0), -1);
    }

    private static void habits() {
        WindowRoll x = town();
        C.is("collector", x.habit(-1, 0, 0), -1000000);
        C.is("collector", x.habit(0, 4, 0), -1000000);
        C.is("no two", x.habit(2, 2, 0), -1000000);
        C.is("what", x.habit(0, 1, 4), -1000000);
        C.is("what", x.habit(0, 1, -1), -1000000);
        for (int what = 0; what < 4; what++) {
            C.is("of none", x.habit(0, 1, what), 0);
        }
        x.walk(0, 1);
        x.make(0, 0, 1);
        x.make(2, 1, 1);
        x.walk(1, 1);
        x.walk(0, 0);
        x.look(1, 1);
        x.go();
        x.walk(1, 1);
        x.make(0, 0, 0);
        x.make(2, 1, 0);
        x.make(2, 0, 1);
        x.walk(0, 1);
        x.late(0, 0, 100);
        int[] due = {1 + 2 + 1 + 1, 4, 1, 2};
        for (int what = 0; what < 4; what++) {
            C.is("habit " + what, x.habit(0, 1, what), due[what]);
        }
        int[] other = {-5, 4, -2, -1};
        for (int what = 0; what < 4; what++) {
            C.is("the other way about " + what, x.habit(1, 0, what), other[what]);
        }
        WindowRoll y = town();
        y.make(1, 0, 1);
        y.walk(0, 0);
        y.make(1, 0, 0);
        y.walk(1, 0);
        for (int what = 0; what < 4; what++) {
            C.is("of one, below 0 " + what, y.habit(0, 1, what), what == 1 ? 1 : -1);
        }
        C.is("of none", x.habit(0, 2, 3), 0);
        C.is("of none", x.habit(3, 2, 2), 0);
    }

    private static void spans() {
        WindowRoll x = town();
        C.is("nothing", x.span(0, 0, 0, 0), -1);
        for (int y = 0; y < 10; y++) {
            x.go();
        }
        x.late(0, 3, 10);
        x.late(0, 7, 14);
        C.is("least", x.span(0, 5, 10, 0), 10);
        C.is("greatest", x.span(0, 5, 10, 1), 14);
        C.is("least", x.span(0, 4, 10, 0), 8);
        C.is("greatest", x.span(0, 4, 10, 1), 12);
        C.is("ahead", x.span(0, 0, 10, 0), 4);
        C.is("ahead", x.span(0, 0, 10, 1), 16);
        C.is("behind", x.span(0, 99, 10, 0), 0);
        C.is("behind", x.span(0, 99, 10, 1), 14 + 184);
        C.is("not known", x.span(0, 5, 9, 0), -1);
        C.is("another HOUSE", x.span(1, 5, 10, 0), -1);
        C.is("house", x.span(3, 5, 10, 0), -1);
        C.is("year", x.span(0, 100, 10, 0), -1);
        C.is("year", x.span(0, -1, 10, 0), -1);
        C.is("known", x.span(0, 5, 11, 0), -1);
        C.is("known", x.span(0, 5, -1, 0), -1);
        C.is("what", x.span(0, 5, 10, 2), -1);
        C.is("what", x.span(0, 5, 10, -1), -1);
        x.terms(0, 0, 0, 1);
        C.is("just together", x.span(0, 5, 10, 0), 12);
        C.is("just together", x.span(0, 5, 10, 1), 12);
        x.terms(0, 0, 0, 0);
        C.is("not together", x.span(0, 99, 10, 0), -7);
        x.terms(0, 0, 0, 20);
        x.late(0, 7, 990);
        C.is("not together", x.span(0, 3, 10, 1), -7);
        x.late(0, 3, 985);
        C.is("1000 at most", x.span(0, 9, 10, 1), 1000);
        C.is("least", x.span(0, 9, 10, 0), 950);
    }

    private static void heaps() {
        WindowRoll x = town();
        C.is("heap", x.heap(10), 3);
        x.roof(0, 1);
        x.make(1, 0, 1);
        x.make(2, 3, 2);
        C.is("heap", x.heap(10), 1);
        C.is("heap", x.heap(9), 1);
        C.is("heap", x.heap(6), 1);
        C.is("heap", x.heap(5), 0);
        C.is("heap", x.heap(-1), -1);
        C.is("heap", x.heap(Integer.MAX_VALUE), 0);
        x.down(0);
        C.is("not DOWN", x.heap(10), 0);
        x.house(0, 0, 1, 1);
        C.is("none", x.heap(0), 1);
        Checks.act(x, 1, "counts 0");
        C.is("this YEAR's", x.heap(0), 1);
        x.go();
        C.is("this YEAR's", x.heap(0), 3);
    }

    private static void routes() {
        WindowRoll x = town();
        C.is("street", x.route(-1, 0), -2);
        C.is("street", x.route(4, 0), -2);
        C.is("minutes", x.route(0, -1), -2);
        C.is("minutes", x.route(0, 501), -2);
        C.is("none", x.route(1, 0), 0);
        C.is("of equals the least set", x.route(1, 1), 1);
        C.is("all", x.route(1, 500), 5);
        C.is("another STREET", x.route(0, 500), 2);
        C.is("no HOUSES", x.route(3, 500), 0);
        x.make(0, 2, 1);
        C.is("the greatest gain", x.route(1, 1), 4);
        x.down(2);
        C.is("not DOWN", x.route(1, 500), 1);
        Checks.act(x, 0, "from 1 pay 1;spare");
        C.is("no gain, fewest MINUTES", x.route(1, 500), 0);
        Checks.act(x, 0, "from 1 pay 10-count");
        x.house(1, 0, 1, 60);
        Checks.room(x, 3, 0, 0, 1, 1, 1, 1, 1, -1, -1, -1, -1, -1);
        C.is("0 at least", x.route(1, 60), 1);
    }

    private static void comparedRoute(Random r) {
        WindowRoll x = new WindowRoll();
        int n = 1 + r.nextInt(9);
        int most = 1 + r.nextInt(60);
        for (int h = 0; h < n; h++) {
            x.house(r.nextInt(5) == 0 ? 1 : 0, r.nextInt(20), 1, 1 + r.nextInt(most));
            Checks.room(x, h, 0, 0, 1 + r.nextInt(5), -1 - r.nextInt(5));
            x.make(h, 1, r.nextInt(3));
        }
        x.down(r.nextInt(16));
        Checks.act(x, 0, r.nextBoolean() ? "from 1 pay 1;counts panes" : "from 1 pay worth/5");
        int minutes = r.nextInt(n * most);
        minutes = Math.min(500, minutes);
        long bestGain = -1;
        int bestMinutes = 0;
        int best = 0;
        for (int s = 0; s < 1 << n; s++) {
            long gain = 0;
            int time = 0;
            boolean can = true;
            for (int h = 0; h < n; h++) {
                if ((s >> h & 1) == 1) {
                    can &= x.houseOf(h, 0) == 0 && x.houseOf(h, 9) == 0;
                    time += x.houseOf(h, 3);
                    gain += Math.max(0, x.tax(h, 0, x.counted(h, 0, 2)) - x.tax(h, 0, x.counted(h, 0, 1)));
                }
            }
            if (can && time <= minutes
                && (gain > bestGain || gain == bestGain && time < bestMinutes)) {
                bestGain = gain;
                bestMinutes = time;
                best = s;
            }
        }
        C.is("route", x.route(0, minutes), best);
    }

    /** THE SPAN by going through the COUNTS that can be from YEAR to YEAR. */
    private static void comparedSpan(Random r) {
        WindowRoll x = new WindowRoll();
        x.house(0, 0, 1, 1);
        int moves = r.nextInt(4);
        x.terms(0, 0, 0, moves);
        for (int y = 0; y < 12; y++) {
            x.go();
        }
        int[] told = new int[100];
        java.util.Arrays.fill(told, -1);
        int at = r.nextBoolean() ? r.nextInt(10) : 1000 - r.nextInt(10);
        for (int i = 0; i < 1 + r.nextInt(4); i++) {
            int y = r.nextInt(12);
            int c = Math.max(0, Math.min(1000, at + r.nextInt(9) - 4));
            told[y] = c;
            x.late(0, y, c);
        }
        int year = r.nextInt(20);
        boolean[] ahead = reach(told, 0, year, 1, moves);
        boolean[] behind = reach(told, 99, year, -1, moves);
        int least = -7;
        int greatest = -7;
        for (int c = 0; c <= 1000; c++) {
            if (ahead[c] && behind[c]) {
                least = least == -7 ? c : least;
                greatest = c;
            }
        }
        C.is("span", x.span(0, year, 12, 0), least);
        C.is("span", x.span(0, year, 12, 1), greatest);
    }

    private static boolean[] reach(int[] told, int from, int to, int step, int moves) {
        boolean[] can = new boolean[1001];
        java.util.Arrays.fill(can, true);
        for (int y = from; ; y += step) {
            for (int c = 0; c <= 1000; c++) {
                can[c] &= told[y] == -1 || told[y] == c;
            }
            if (y == to) {
                return can;
            }
            boolean[] next = new boolean[1001];
            for (int c = 0; c <= 1000; c++) {
                for (int d = Math.max(0, c - moves); d <= Math.min(1000, c + moves) && !next[c]; d++) {
                    next[c] = can[d];
                }
            }
            can = next;
        }
    }
}
