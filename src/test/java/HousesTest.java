/** Promises 2 to 9, 40 and 41: HOUSES, their ROOMS and OPENINGS, light, roofs. */
public final class HousesTest {
    private static final Checks C = new Checks();

    public static void main(String[] args) {
        light();
        terms();
        houses();
        rooms();
        openings();
        worths();
        roofs();
        downs();
        C.finish();
    }

    private static void light() {
        WindowRoll x = new WindowRoll();
        C.is("light kind", x.light(-1, 0, 0), -2);
        C.is("light kind", x.light(4, 0, 0), -2);
        C.is("light light", x.light(0, -1, 0), -2);
        C.is("light light", x.light(0, 51, 0), -2);
        C.is("light enough", x.light(0, 0, -1), -2);
        C.is("light enough", x.light(0, 0, 201), -2);
        x.house(0, 0, 1, 1);
        Checks.room(x, 0, 0, 0, 30, 30, 30, 30);
        Checks.room(x, 0, 0, 0, 30, 30, 30);
        Checks.room(x, 0, 3, 0, 5);
        C.is("nothing changed", x.houseOf(0, 7), 36 + 36 + 15);
        C.is("light", x.light(0, 50, 200), 0);
        C.is("ROOMS by themselves", x.houseOf(0, 7), 50 * 120 + 50 * 90 + 15);
        C.is("light", x.light(0, 50, 100), 0);
        C.is("ENOUGH of each ROOM", x.houseOf(0, 7), 50 * 100 + 50 * 90 + 15);
        C.is("light", x.light(3, 0, 0), 0);
        C.is("no light", x.houseOf(0, 7), 9500);
        x.make(0, 0, 1);
        x.make(0, 1, 2);
        C.is("bricked and boarded ones", x.houseOf(0, 7), 50 * 60 + 50 * 90);
    }

    private static void terms() {
        WindowRoll x = new WindowRoll();
        int[] most = {1000, 1000, 60, 20};
        for (int i = 0; i < 4; i++) {
            for (int v = 0; v < 4; v++) {
                int[] t = new int[4];
                t[i] = v == 0 ? -1 : v == 1 ? 0 : v == 2 ? most[i] : most[i] + 1;
                C.is("terms " + i + " " + t[i], x.terms(t[0], t[1], t[2], t[3]), v == 1 || v == 2 ? 0 : -2);
            }
        }
        x.house(0, 0, 1, 1);
        Checks.room(x, 0, 0, 0, 1, 1);
        x.make(0, 1, 1);
        Checks.act(x, 0, "from 1 pay 500 when count<2");
        x.terms(7, 1000, 0, 0);
        C.is("BRICKING", x.plan(0, 1), -7);
        x.terms(1000, 4, 0, 0);
        C.is("OPENING", x.plan(0, 1), 2);
        x.held(0, 2, 0, false, false, true);
        C.is("NEAR", x.nearest(0, 0), -1);
        x.terms(0, 0, 1, 0);
        C.is("NEAR", x.nearest(0, 0), 0);
        x.go();
        x.late(0, 0, 30);
        C.is("MOVES 0", x.span(0, 5, 1, 0), 30);
        x.terms(0, 0, 1, 20);
        C.is("MOVES 20", x.span(0, 6, 1, 1), 150);
    }

    private static void houses() {
        WindowRoll x = new WindowRoll();
        int[][] bad = {{-1, 0, 1, 1}, {4, 0, 1, 1}, {0, -1, 1, 1}, {0, 10001, 1, 1}, {0, 0, 0, 1},
            {0, 0, 10, 1}, {0, 0, 1, 0}, {0, 0, 1, 61}};
        for (int[] b : bad) {
            C.is("house", x.house(b[0], b[1], b[2], b[3]), -2);
        }
        for (int i = 0; i < 16; i++) {
            C.is("house", x.house(i % 4, i == 0 ? 0 : 10000, i == 0 ? 1 : 9, i == 0 ? 1 : 60), i);
        }
        C.is("a 17th", x.house(0, 0, 1, 1), -3);
        C.is("not as told comes first", x.house(4, 0, 1, 1), -2);
        C.is("count", x.count(1), 16);
        int[] due = {3, 10000, 9, 60, 0, 0, 0, 0, 15, 0};
        for (int what = 0; what < 10; what++) {
            C.is("houseOf " + what, x.houseOf(15, what), due[what]);
        }
        C.is("houseOf", x.houseOf(15, 10), -2);
        C.is("houseOf", x.houseOf(15, -1), -2);
        C.is("houseOf", x.houseOf(16, 0), -2);
        C.is("houseOf", x.houseOf(-1, 0), -2);
    }

    private static void rooms() {
        WindowRoll x = new WindowRoll();
        x.house(0, 0, 1, 1);
        x.row(0, 3, 0);
        C.is("house", x.room(-1, 0, 0, 0), -2);
        C.is("house", x.room(1, 0, 0, 0), -2);
        C.is("kind", x.room(0, -1, 0, 0), -2);
        C.is("kind", x.room(0, 4, 0, 0), -2);
        C.is("floor", x.room(0, 0, -1, 0), -2);
        C.is("floor", x.room(0, 0, 6, 0), -2);
        C.is("place", x.room(0, 0, 0, -1), -2);
        C.is("place", x.room(0, 0, 0, 4), -2);
        C.is("nothing", x.room(0, 0, 0, 1), -5);
        C.is("an empty row", x.room(0, 3, 5, 0), 0);
        long[] bad = {0, 31, 99, 100, 131, -31, -100, -131, Long.MIN_VALUE, Long.MAX_VALUE, 4294967297L};
        for (long b : bad) {
            C.is("number " + b, Checks.room(x, 0, 0, 0, 1, b), -4);
        }
        C.is("nothing came", x.houseOf(0, 5), 0);
        C.is("the least and greatest", Checks.room(x, 0, 1, 5, 1, 30, 101, 130, -1, -30, -101, -130), 1);
        C.is("openings", x.houseOf(0, 5), 8);
        C.is("rooms", x.houseOf(0, 4), 2);
        C.is("11 openings", Checks.room(x, 0, 0, 0, 1, 1, 1), -3);
        C.is("4 ahead of 3", Checks.room(x, 0, 0, 0, 1, 1, 0), -4);
        for (int r = 2; r < 6; r++) {
            C.is("room", Checks.room(x, 0, 0, 0), r);
        }
        C.is("a 7th room", Checks.room(x, 0, 0, 0), -3);
        C.is("light of 6", x.houseOf(0, 7), 36);
        int[][] due = {{1, 1, 5, 1, 0, 0, 0, -1}, {1, 30, 5, 1, 0, 0, 0, -1}, {1, 1, 5, 1, 0, 1, 0, -1},
            {1, 30, 5, 1, 0, 1, 0, -1}, {1, 1, 5, 1, 1, 0, 0, -1}, {1, 30, 5, 1, 1, 0, 0, -1},
            {1, 1, 5, 1, 1, 1, 0, -1}, {1, 30, 5, 1, 1, 1, 0, -1}};
        for (int o = 0; o < 8; o++) {
            for (int what = 0; what < 8; what++) {
                C.is("opening " + o + " " + what, x.opening(0, o, what), due[o][what]);
            }
        }
        x.house(0, 0, 1, 1);
        x.down(1);
        C.is("DOWN", Checks.room(x, 1, 0, 0), -2);
        x.house(0, 0, 1, 1);
        C.is("ten at once", Checks.room(x, 2, 0, 0, 1, 1, 1, 1, 1, 1, 1, 1, 1, 1), 0);
        C.is("no more", Checks.room(x, 2, 0, 0, 1), -3);
        C.is("none more", Checks.room(x, 2, 0, 0), 1);
    }

    private static void openings() {
        WindowRoll x = new WindowRoll();
        x.house(0, 0, 1, 1);
        Checks.room(x, 0, 0, 0, 1);
        Checks.room(x, 0, 2, 3, 2, 103);
        C.is("its ROOM", x.opening(0, 2, 0), 1);
        C.is("opening", x.opening(0, 3, 0), -2);
        C.is("opening", x.opening(0, -1, 0), -2);
        C.is("opening", x.opening(1, 0, 0), -2);
        C.is("opening", x.opening(0, 0, 8), -2);
        C.is("opening", x.opening(0, 0, -1), -2);
        C.is("make", x.make(0, 2, 2), 0);
        C.is("make", x.make(0, 2, 1), 2);
        C.is("make", x.make(0, 2, 1), 1);
        C.is("state", x.opening(0, 2, 6), 1);
        C.is("open ones", x.houseOf(0, 6), 2);
        C.is("make", x.make(0, 2, 0), 1);
        C.is("make state", x.make(0, 2, 3), -2);
        C.is("make state", x.make(0, 2, -1), -2);
        C.is("make opening", x.make(0, 3, 0), -2);
        C.is("make opening", x.make(0, -1, 0), -2);
        C.is("make house", x.make(1, 0, 0), -2);
        x.down(0);
        C.is("make DOWN", x.make(0, 0, 0), -2);
        C.is("opening DOWN", x.opening(0, 2, 1), 3);
    }

    private static void worths() {
        WindowRoll x = new WindowRoll();
        x.house(0, 5, 1, 1);
        C.is("worth", x.worth(1, 0, 1), -2);
        C.is("worth", x.worth(-1, 0, 1), -2);
        C.is("worth", x.worth(0, -1, 1), -2);
        C.is("worth", x.worth(0, 10001, 1), -2);
        C.is("worth", x.worth(0, 0, 0), -2);
        C.is("worth", x.worth(0, 0, 10), -2);
        C.is("worth", x.houseOf(0, 1), 5);
        C.is("worth", x.worth(0, 10000, 9), 0);
        C.is("worth", x.houseOf(0, 1), 10000);
        C.is("families", x.houseOf(0, 2), 9);
    }

    private static void roofs() {
        WindowRoll x = new WindowRoll();
        for (int i = 0; i < 6; i++) {
            x.house(i % 4, 0, 1, 1);
        }
        C.is("roof", x.roof(0, 6), -2);
        C.is("roof", x.roof(6, 0), -2);
        C.is("roof", x.roof(-1, 0), -2);
        C.is("roof with itself", x.roof(2, 2), -2);
        C.is("join", x.roof(5, 4), 1);
        C.is("join", x.roof(3, 2), 1);
        C.is("join all", x.roof(4, 3), 1);
        for (int i = 2; i < 6; i++) {
            C.is("least", x.houseOf(i, 8), 2);
        }
        C.is("part", x.roof(2, 5), 0);
        C.is("by itself", x.houseOf(2, 8), 2);
        C.is("the others stay", x.houseOf(5, 8), 3);
        C.is("the others stay", x.houseOf(4, 8), 3);
        C.is("join again", x.roof(2, 5), 1);
        C.is("least", x.houseOf(4, 8), 2);
        C.is("down", x.down(2), true);
        C.is("by itself", x.houseOf(2, 8), 2);
        C.is("least", x.houseOf(4, 8), 3);
        C.is("join", x.roof(0, 1), 1);
        C.is("part", x.roof(1, 0), 0);
        C.is("part", x.roof(5, 3), 0);
        C.is("part", x.roof(4, 3), 0);
        x.house(0, 0, 1, 1);
        for (int i = 0; i < 7; i++) {
            C.is("each by itself", x.houseOf(i, 8), i);
        }
        C.is("roof of DOWN", x.roof(2, 1), -2);
        C.is("roof of DOWN", x.roof(1, 2), -2);
    }

    private static void downs() {
        WindowRoll x = new WindowRoll();
        x.house(1, 7, 2, 9);
        C.is("down", x.down(1), false);
        C.is("down", x.down(-1), false);
        C.is("not DOWN", x.houseOf(0, 9), 0);
        C.is("down", x.down(0), true);
        C.is("down again", x.down(0), false);
        C.is("DOWN", x.houseOf(0, 9), 1);
        C.is("houses", x.count(1), 1);
        C.is("its STREET", x.houseOf(0, 0), 1);
        C.is("the next number", x.house(1, 0, 1, 1), 1);
    }
}
