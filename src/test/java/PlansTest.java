import java.util.Random;
import java.util.function.Consumer;

/** Promises 18 to 20 and 38: PLANS, compared with all that an owner could do, and ACTS BESIDE. */
public final class PlansTest {
    private static final Checks C = new Checks();

    public static void main(String[] args) {
        plans();
        owners();
        stale();
        ends();
        besides();
        for (int seed = 0; seed < 400; seed++) {
            compared(new Random(seed));
        }
        greatest();
        C.finish();
    }

    private static void plans() {
        WindowRoll x = new WindowRoll();
        C.is("no HOUSE", x.plan(0, 1), -1000000);
        x.house(0, 0, 1, 1);
        C.is("years", x.plan(0, 0), -1000000);
        C.is("years", x.plan(0, 11), -1000000);
        C.is("house", x.plan(-1, 1), -1000000);
        C.is("no plan", x.planned(0), -1);
        C.is("no OPENINGS", x.plan(0, 10), 0);
        C.is("no OPENINGS", x.planned(9), 0);
        C.is("no such YEAR", x.planned(10), -1);
        C.is("no such YEAR", x.planned(-1), -1);
        Checks.room(x, 0, 0, 0, 1, 1, 1);
        x.terms(0, 0, 0, 0);
        x.light(0, 0, 200);
        C.is("of equals the fewest changes", x.plan(0, 2), 0);
        C.is("of equals the fewest changes", x.planned(0), 7);
        C.is("of equals the fewest changes", x.planned(1), 7);
        Checks.act(x, 0, "from 2 pay 1");
        C.is("the least set", x.plan(0, 2), 0);
        C.is("the least set", x.planned(0), 1);
        C.is("then no change", x.planned(1), 1);
        x.make(0, 0, 2);
        x.make(0, 1, 1);
        x.light(0, 1, 200);
        C.is("boarded ones stay", x.plan(0, 1), 1);
        C.is("boarded ones stay", x.planned(0), 4);
        C.is("a refused one changes nothing", x.plan(0, 11), -1000000);
        C.is("a refused one changes nothing", x.planned(0), 4);
        x.make(0, 2, 1);
        x.light(0, 9, 200);
        C.is("opened", x.plan(0, 2), 32);
        C.is("opened again", x.plan(0, 2), 32);
        Checks.act(x, 0, "from 1 pay 50");
        C.is("left bricked", x.plan(0, 2), 0);
        C.is("left bricked", x.planned(1), 0);
        x.down(0);
        C.is("DOWN", x.plan(0, 1), -1000000);
    }

    private static void owners() {
        WindowRoll x = new WindowRoll();
        x.house(0, 0, 1, 1);
        Checks.room(x, 0, 0, 0, 1, 2, 3, 4);
        x.make(0, 0, 1);
        x.make(0, 3, 2);
        x.terms(0, 0, 0, 0);
        Checks.act(x, 0, "from 1 pay 5");
        C.is("plan", x.plan(0, 2), 2 * (6 + 9 - 10));
        C.is("nothing to change", x.owner(), 0);
        C.is("once", x.owner(), -1);
        Checks.act(x, 0, "from 1 pay 5;counts 0 when panes=1;counts 3 when panes=2");
        C.is("plan", x.plan(0, 1), 3 + 9 - 5);
        C.is("planned", x.planned(0), 5);
        C.is("owner", x.owner(), 2);
        int[] state = {0, 1, 0, 2};
        for (int o = 0; o < 4; o++) {
            C.is("state", x.opening(0, o, 6), state[o]);
        }
        C.is("planned stays", x.planned(0), 5);
    }

    /** Each call, done between plan() and owner(): whether the PLAN is stale then. */
    private static void stale() {
        stale("light", true, x -> x.light(3, 3, 3));
        stale("terms", true, x -> x.terms(20, 30, 5, 2));
        stale("house", true, x -> x.house(0, 0, 1, 1));
        stale("room", true, x -> x.room(0, 0, 0, 0));
        stale("make", true, x -> x.make(1, 0, 0));
        stale("worth", true, x -> x.worth(0, 0, 1));
        stale("roof", true, x -> x.roof(0, 1));
        stale("down", true, x -> x.down(1));
        stale("act", true, x -> x.act(50));
        stale("held", true, x -> x.held(0, 1, 0, false, false, true));
        stale("appeal", true, x -> x.appeal(1, 0));
        stale("overrule", true, x -> x.overrule(0));
        stale("owner", true, x -> x.owner());
        stale("go", true, x -> x.go());
        stale("planned", false, x -> x.planned(0));
        stale("walk", false, x -> x.walk(0, 0));
        stale("look", false, x -> x.look(0, 0));
        stale("route", false, x -> x.route(0, 60));
        stale("feed, end", false, x -> x.end(x.feed(0, 0, 0, 0, 0) - 20));
        stale("beside", false, x -> x.beside(1, 0));
        stale("ask", false, x -> Checks.ask(x, 0, "number"));
        stale("row, write", false, x -> Checks.row(x, 1, 5));
        stale("due, tax", false, x -> x.tax(0, 0, (int) x.due(0)));
        stale("refused light", false, x -> x.light(4, 3, 3));
        stale("refused make", false, x -> x.make(0, 1, 0));
        stale("refused down", false, x -> x.down(2));
        stale("refused act", false, x -> x.act(100));
        stale("refused overrule", false, x -> x.overrule(1));
        stale("refused plan", false, x -> x.plan(2, 1));
    }

    private static void stale(String call, boolean is, Consumer<WindowRoll> done) {
        WindowRoll x = new WindowRoll();
        x.house(0, 0, 1, 1);
        x.house(0, 0, 1, 1);
        Checks.room(x, 0, 0, 0, 1);
        Checks.room(x, 1, 0, 0, 1);
        x.held(0, 30, 5, true, true, false);
        Checks.row(x, 0);
        x.plan(0, 1);
        done.accept(x);
        C.is("owner behind " + call, x.owner(), is ? -1 : 0);
        C.is("planned behind " + call, x.planned(0), 1);
    }

    private static void ends() {
        WindowRoll x = new WindowRoll();
        x.house(0, 0, 1, 1);
        Checks.room(x, 0, 0, 0, 1);
        Checks.act(x, 0, "from 1 pay 100 when year>100");
        for (int i = 0; i < 99; i++) {
            x.go();
        }
        C.is("99 it is", x.go(), -9);
        C.is("YEARS behind the last one", x.plan(0, 3), 3 + 3 - 20);
        C.is("YEARS behind the last one", x.planned(1), 1);
        C.is("YEARS behind the last one", x.planned(2), 0);
    }

    private static void besides() {
        WindowRoll x = new WindowRoll();
        C.is("nobody", Checks.beside(x, 1, 0, "from 1 pay 1"), 0);
        for (int h = 0; h < 3; h++) {
            x.house(0, 0, 1, 1);
            Checks.room(x, h, 0, 0, 1, 2, 3);
        }
        x.roof(0, 1);
        x.down(2);
        x.make(0, 0, 1);
        x.make(1, 0, 2);
        Checks.act(x, 2, "from 1 pay 1000");
        x.terms(0, 0, 0, 0);
        String text = "from 1 pay 4+year*2";
        long[] due = {16, 16 + 24 + 16, 2, 18, 16 + 24 + 32};
        for (int what = 0; what < 5; what++) {
            C.is("beside " + what, Checks.beside(x, 3, what, text), due[what]);
        }
        C.is("no ACT came", x.count(2), 1);
        C.is("nothing was done", x.houseOf(0, 6), 2);
        C.is("-2", Checks.beside(x, 0, 0, text), -2);
        C.is("-2", x.beside(11, 0), -2);
        C.is("-2", x.beside(1, -1), -2);
        C.is("-2", x.beside(1, 5), -2);
        C.is("the TAPE stays", x.count(6), 19);
        C.is("read", x.beside(10, 4), 4 * (40 + 90));
        C.is("the TAPE is empty", x.count(6), 0);
        String counted = "counts year+1;from 1 pay 1";
        long[] byYear = {5, 5 + 10 + 15, 5, 33, 4 + 8 + 12};
        for (int what = 0; what < 5; what++) {
            C.is("WEIGHTS by YEAR " + what, Checks.beside(x, 3, what, counted), byYear[what]);
        }
        C.is("a FAULT", Checks.beside(x, 1, 0, "from"), -4);
        C.is("the TAPE is empty", x.count(6), 0);
    }

    /** The greatest HOUSE for the most YEARS: its worth by hand. */
    private static void greatest() {
        WindowRoll x = new WindowRoll();
        x.house(0, 0, 1, 1);
        Checks.room(x, 0, 0, 0, 30, 30, 30, 30, 30, 30, 30, 30, 30, 30);
        x.light(0, 50, 200);
        Checks.act(x, 0, "from 1 pay 9999*9999;counts 9");
        C.is("all bricked", x.plan(0, 10), -200);
        C.is("all bricked", x.planned(0), 0);
        Checks.act(x, 0, "from 1 pay 300;counts 9");
        C.is("worth", x.plan(0, 10), -200);
        Checks.act(x, 0, "from 1 pay 100;counts 9");
        C.is("worth", x.plan(0, 10), 10 * (10000 - 6300) - 60);
        C.is("the least set", x.planned(9), 127);
    }

    private static final String[] PARTS = {"from 1 pay 2", "from 3 pay 7", "from 2 add 5 when year=1",
        "counts panes/2", "counts 2 when back=1", "spare when year=2", "part 50 when count<3",
        "counts year", "from 1 add year*3", "from 1 pay 40 when year>1", "counts 0 when lattice=1"};

    /** A small HOUSE, its PLAN found by going through all that could be done. */
    private static void compared(Random r) {
        WindowRoll x = new WindowRoll();
        x.house(r.nextInt(4), r.nextInt(100), 1 + r.nextInt(3), 1);
        int number = 0;
        int rooms = 1 + r.nextInt(2);
        for (int i = 0; i < rooms; i++) {
            int n = 1 + r.nextInt(2);
            long[] o = new long[n];
            for (int k = 0; k < n; k++) {
                o[k] = (1 + r.nextInt(6) + (r.nextInt(4) == 0 ? 100 : 0)) * (r.nextBoolean() ? 1 : -1);
            }
            Checks.room(x, 0, r.nextInt(4), r.nextInt(6), o);
            number += n;
        }
        for (int o = 0; o < number; o++) {
            x.make(0, o, r.nextInt(3));
        }
        for (int kind = 0; kind < 4; kind++) {
            x.light(kind, r.nextInt(5), r.nextInt(12));
        }
        int bricking = r.nextInt(8);
        int opening = r.nextInt(8);
        x.terms(bricking, opening, 5, 2);
        StringBuilder text = new StringBuilder(PARTS[r.nextInt(PARTS.length)]);
        for (int i = r.nextInt(5); i > 0; i--) {
            text.append(';').append(PARTS[r.nextInt(PARTS.length)]);
        }
        Checks.act(x, 0, text.toString());
        Checks.act(x, 2, PARTS[r.nextInt(PARTS.length)]);
        if (r.nextInt(3) == 0) {
            x.held(0, 3, 0, false, false, false);
            x.appeal(0, r.nextInt(number));
        }
        x.go();
        int years = 1 + r.nextInt(3);
        int[] told = new int[years];
        long worth = x.plan(0, years);
        for (int y = 0; y < years; y++) {
            told[y] = x.planned(y);
        }
        int[] best = new int[years];
        long due = search(x, number, years, bricking, opening, best);
        C.is("worth by " + text, worth, due);
        for (int y = 0; y < years; y++) {
            C.is("YEAR " + y + " by " + text, told[y], best[y]);
        }
    }

    /** Worth of each set in each YEAR is told by the object itself, with the states made so. */
    private static long search(WindowRoll x, int number, int years, int bricking, int opening, int[] best) {
        int sets = 1 << number;
        int boarded = 0;
        int open = 0;
        for (int o = 0; o < number; o++) {
            boarded |= x.opening(0, o, 6) == 2 ? 1 << o : 0;
            open |= x.opening(0, o, 6) == 0 ? 1 << o : 0;
        }
        long[][] brings = new long[years][sets];
        for (int s = 0; s < sets; s++) {
            for (int o = 0; o < number; o++) {
                x.make(0, o, (s >> o & 1) == 1 ? 0 : 1);
            }
            for (int y = 0; y < years; y++) {
                int year = x.count(0) + y;
                brings[y][s] = x.houseOf(0, 7) - x.tax(0, year, x.counted(0, year, 0));
            }
        }
        long most = Long.MIN_VALUE;
        int all = 1;
        for (int y = 0; y < years; y++) {
            all *= sets;
        }
        int[] way = new int[years];
        for (int w = 0; w < all; w++) {
            int rest = w;
            int before = open;
            long worth = 0;
            boolean can = true;
            for (int y = 0; y < years; y++) {
                way[y] = rest % sets;
                rest /= sets;
                can &= (way[y] & boarded) == 0;
                worth += brings[y][way[y]] - bricking * Integer.bitCount(before & ~way[y])
                    - opening * Integer.bitCount(way[y] & ~before);
                before = way[y];
            }
            if (can && (worth > most || worth == most && comesFirst(way, best, open))) {
                most = worth;
                System.arraycopy(way, 0, best, 0, years);
            }
        }
        return most;
    }

    private static boolean comesFirst(int[] way, int[] best, int open) {
        int before = open;
        for (int y = 0; y < way.length; y++) {
            if (way[y] != best[y]) {
                int a = Integer.bitCount(way[y] ^ before);
                int b = Integer.bitCount(best[y] ^ before);
                return a != b ? a < b : way[y] < best[y];
            }
            before = way[y];
        }
        return false;
    }
}
