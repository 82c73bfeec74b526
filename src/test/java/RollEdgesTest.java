/** The edges of Terms VI and VII and of promises 26 to 33 and 42: collectors, the ROLL, what is paid, THE SPAN. */
public final class RollEdgesTest {
    private static final Checks C = new Checks();

    public static void main(String[] args) throws Exception {
        C.runAll(RollEdgesTest.class);
    }

    /** HOUSES in STREETS 0, 1, 0, each with OPENINGS of 1, 2 and (at the back) 4 panes, that count as many. */
    private static WindowRoll street() {
        WindowRoll x = new WindowRoll();
        for (int h = 0; h < 3; h++) {
            x.house(h % 2, 10 * h, 1 + h, 10 + h);
            Checks.room(x, h, 0, 0, 1, 2, -4);
        }
        Checks.act(x, 0, "counts panes;from 1 pay 10");
        return x;
    }

    /** Term VI: a WALK: "the COUNT of what is open and not at the back". */
    private static void term6Walk() {
        WindowRoll x = street();
        x.make(2, 0, 1);
        C.is("walk", x.walk(0, 0), 2);
        C.is("open ones", x.roll(0, 0, 0, 0), 3);
        C.is("one is bricked", x.roll(2, 0, 0, 0), 2);
        x.make(2, 1, 2);
        x.walk(1, 0);
        C.is("one is boarded", x.roll(2, 0, 0, 0), 0);
    }

    /** Term VI: a WALK is "for each HOUSE of the STREET that is not DOWN". */
    private static void term6WalkStreet() {
        WindowRoll x = street();
        x.down(2);
        C.is("walk", x.walk(0, 0), 1);
        C.is("in it", x.roll(0, 0, 0, 0), 3);
        C.is("in another STREET", x.roll(1, 0, 0, 0), -1);
        C.is("DOWN", x.roll(2, 0, 0, 0), -1);
        C.is("LINES", x.count(5), 1);
    }

    /** Term VI: a LOOK: "a LINE of the COUNT of what is open or boarded", at the back or not. */
    private static void term6Look() {
        WindowRoll x = street();
        x.look(0, 0);
        C.is("open ones", x.roll(0, 0, 0, 0), 7);
        x.make(0, 2, 2);
        x.look(0, 0);
        C.is("one is boarded", x.roll(0, 0, 0, 0), 7);
        x.make(0, 1, 1);
        x.look(0, 0);
        C.is("one is bricked", x.roll(0, 0, 0, 0), 5);
        C.is("LINES", x.count(5), 3);
    }

    /** Term VI: "Of several LINES of a HOUSE and YEAR the latest one tells". */
    private static void term6Latest() {
        WindowRoll x = street();
        x.look(1, 0);
        x.walk(2, 0);
        C.is("the walk", x.roll(0, 0, 0, 1), 0);
        C.is("its COUNT", x.roll(0, 0, 0, 0), 3);
        x.look(3, 0);
        C.is("the look", x.roll(0, 0, 0, 2), 3);
        x.go();
        x.late(0, 0, 50);
        x.late(0, 0, 40);
        C.is("the latest late one", x.roll(0, 0, 1, 0), 40);
        C.is("LINES are kept", x.count(5), 6);
    }

    /** Term VI: "LINES are 1200 at most": the 1200th comes, by any of the three calls. */
    private static void term6Lines() {
        for (int way = 0; way < 3; way++) {
            WindowRoll x = almostFull();
            C.is("LINES", x.count(5), 1199);
            long last = way == 0 ? x.walk(0, 1) : way == 1 ? x.look(0, 0) : x.late(0, 0, 5);
            C.is("the 1200th by " + way, last, way == 0 ? 1 : 0);
            C.is("LINES", x.count(5), 1200);
            C.is("no walk", x.walk(1, 1), -3);
            C.is("no look", x.look(0, 0), -1000003);
            C.is("no late one", x.late(0, 0, 5), -3);
            C.is("LINES", x.count(5), 1200);
        }
    }

    /** 1199 LINES by 85 WALKS of 14 HOUSES and nine LOOKS; HOUSE 14 is alone in STREET 1. */
    private static WindowRoll almostFull() {
        WindowRoll x = new WindowRoll();
        for (int h = 0; h < 15; h++) {
            x.house(h == 14 ? 1 : 0, 0, 1, 1);
        }
        for (int walk = 0; walk < 85; walk++) {
            x.walk(walk % 4, 0);
            if (walk % 4 == 3) {
                x.go();
            }
        }
        for (int h = 0; h < 9; h++) {
            x.look(0, h);
        }
        return x;
    }

    /** A HOUSE of the STREET whose ROUTE gains so much: its OPENINGS are at the back. */
    private static void gainful(WindowRoll x, int street, int minutes, int gain) {
        int h = x.house(street, gain, 1, minutes);
        Checks.room(x, h, 0, 0, -1);
    }

    private static WindowRoll gains(int[]... minutesAndGain) {
        WindowRoll x = new WindowRoll();
        for (int[] h : minutesAndGain) {
            gainful(x, 0, h[0], h[1]);
        }
        Checks.act(x, 0, "from 1 pay worth");
        return x;
    }

    /** Term VI: a ROUTE: "MINUTES together not above what is told". */
    private static void term6Minutes() {
        WindowRoll x = gains(new int[] {10, 5}, new int[] {20, 7});
        int[] minutes = {0, 9, 10, 19, 20, 29, 30, 500};
        int[] due = {0, 0, 1, 1, 2, 2, 3, 3};
        for (int i = 0; i < due.length; i++) {
            C.is(minutes[i] + " minutes", x.route(0, minutes[i]), due[i]);
        }
    }

    /** Term VI: a ROUTE is "of the greatest gain in all, then of the fewest MINUTES, then the least set". */
    private static void term6Best() {
        C.is("two lesser ones", gains(new int[] {10, 8}, new int[] {5, 5}, new int[] {5, 4}).route(0, 10), 6);
        C.is("fewest MINUTES", gains(new int[] {10, 8}, new int[] {9, 8}).route(0, 10), 2);
        C.is("the least set", gains(new int[] {10, 8}, new int[] {10, 8}).route(0, 10), 1);
        C.is("the least set of pairs", gains(new int[] {5, 3}, new int[] {5, 5}, new int[] {5, 3}, new int[] {5, 5})
            .route(0, 15), 11);
        C.is("as a number", gains(new int[] {4, 4}, new int[] {6, 6}, new int[] {10, 10}).route(0, 10), 3);
        C.is("one that gains nothing", gains(new int[] {1, 0}, new int[] {1, 1}).route(0, 500), 2);
    }

    /** Term VI: a ROUTE has HOUSES "of the STREET that are not DOWN". */
    private static void term6RouteStreet() {
        WindowRoll x = gains(new int[] {1, 5}, new int[] {1, 6});
        gainful(x, 3, 1, 7);
        C.is("STREET 0", x.route(0, 500), 3);
        C.is("STREET 3", x.route(3, 500), 4);
        C.is("STREET 1", x.route(1, 500), 0);
        x.down(1);
        C.is("not DOWN", x.route(0, 500), 1);
    }

    /** Term VI: the gain is TAX of what is open or boarded, less that of what is open and not at the back. */
    private static void term6Gain() {
        for (int way = 0; way < 6; way++) {
            WindowRoll x = Checks.oneRoom(way < 3 ? 1 : -1);
            Checks.act(x, 0, "from 1 pay 1");
            x.make(0, 0, way % 3);
            C.is("way " + way, x.route(0, 1), way == 2 || way == 3 || way == 5 ? 1 : 0);
        }
    }

    /** Term VI: the gain is "(0 at least)": a HOUSE that would lose is on no ROUTE, and takes nothing off one. */
    private static void term6GainAtLeast() {
        WindowRoll x = Checks.oneRoom(1, -1);
        x.house(0, 0, 2, 1);
        Checks.room(x, 1, 0, 0, 1, -1);
        Checks.act(x, 0, "from 1 pay 9;from 2 pay 1 when families=1;from 2 pay 5 when families=2");
        C.is("the one that gains", x.route(0, 500), 2);
    }

    /** Term VI: all 16 HOUSES on one ROUTE. */
    private static void term6All() {
        WindowRoll x = new WindowRoll();
        for (int h = 0; h < 16; h++) {
            gainful(x, 2, 31, 1 + h);
        }
        Checks.act(x, 0, "from 1 pay worth");
        C.is("16 of 31 minutes", x.route(2, 496), 65535);
        C.is("a minute less", x.route(2, 495), 65534);
        C.is("500 minutes", x.route(2, 500), 65535);
        x = gains(new int[] {20, 9}, new int[] {60, 3}, new int[] {60, 4}, new int[] {60, 5}, new int[] {60, 6},
            new int[] {60, 7}, new int[] {60, 8}, new int[] {60, 9}, new int[] {60, 10}, new int[] {60, 11});
        C.is("just 500 minutes", x.route(0, 500), 1023 - 2);
        C.is("499 minutes", x.route(0, 499), 1023 - 2 - 4);
        x = gains(new int[] {19, 9}, new int[] {60, 3}, new int[] {60, 4}, new int[] {60, 5}, new int[] {60, 6},
            new int[] {60, 7}, new int[] {60, 8}, new int[] {60, 9}, new int[] {60, 10});
        C.is("just 499 minutes", x.route(0, 499), 511);
    }

    /** Term VI: as the YEAR goes by "each least HOUSE under a roof pays TAX" of all under it together. */
    private static void term6Pays() {
        WindowRoll x = street();
        x.roof(2, 0);
        x.walk(0, 0);
        x.walk(0, 1);
        C.is("go", x.go(), 60 + 30);
        C.is("the least one", x.paid(0), 60);
        C.is("by itself", x.paid(1), 30);
        C.is("with the least one", x.paid(2), 0);
    }

    /** Term VI: "of all under it together": more than any one COUNT can be. */
    private static void term6PaysTogether() {
        WindowRoll x = new WindowRoll();
        for (int h = 0; h < 16; h++) {
            x.house(0, 0, 1, 1);
            x.roof(h, 0);
        }
        x.go();
        for (int h = 0; h < 16; h++) {
            x.late(h, 0, 1000);
        }
        Checks.act(x, 0, "from 9999 pay count");
        C.is("16 times 1000", x.go(), 256000000);
        C.is("the least one", x.paid(0), 256000000);
        C.is("the last one", x.paid(15), 0);
        x.down(0);
        C.is("15 times 1000", x.go(), 225000000);
        C.is("the next one", x.paid(1), 225000000);
    }

    /** Term VI: "(each, if apart holds)": of the least one under the roof. */
    private static void term6PaysApart() {
        WindowRoll x = street();
        x.roof(2, 0);
        Checks.act(x, 0, "counts panes;from 1 pay families;apart when families=1");
        x.walk(0, 0);
        C.is("each", x.go(), 3 + 9);
        C.is("the least one", x.paid(0), 3);
        C.is("the other one", x.paid(2), 9);
        Checks.act(x, 0, "counts panes;from 1 pay families;apart when families=3");
        C.is("of the other one alone", x.go(), 6);
        C.is("the other one", x.paid(2), 9);
    }

    /** Term VI: "of a HOUSE that is not on it the latest YEAR ahead of which it tells counts". */
    private static void term6LatestYear() {
        WindowRoll x = street();
        x.go();
        x.go();
        x.late(0, 0, 5);
        C.is("of YEAR 0", x.go(), 50);
        x.late(0, 1, 7);
        C.is("of YEAR 1", x.go(), 70);
        x.late(0, 0, 99);
        C.is("still of YEAR 1", x.go(), 70);
        x.late(0, 1, 8);
        C.is("as it is known now", x.go(), 80);
        x.walk(0, 0);
        C.is("this YEAR's", x.go(), 30 + 30);
        C.is("paid", x.paid(0), 50 + 70 + 70 + 80 + 30);
    }

    /** Term VI: "(0 without any)". */
    private static void term6WithoutAny() {
        WindowRoll x = street();
        Checks.act(x, 0, "from 0 pay 10");
        C.is("nobody pays", x.go(), 0);
        x.late(0, 0, 0);
        C.is("a COUNT of 0", x.go(), 0);
        C.is("the YEAR is one more", x.count(0), 2);
    }

    /** Term VI: "Those that are DOWN pay nothing", though they are on the ROLL. */
    private static void term6DownPayNothing() {
        WindowRoll x = street();
        x.roof(0, 2);
        x.walk(0, 0);
        x.down(0);
        C.is("go", x.go(), 30);
        C.is("DOWN", x.paid(0), 0);
        C.is("the other one, by itself", x.paid(2), 30);
    }

    /** Term VII: "from one YEAR to the next one a COUNT changes by MOVES at most", ahead and behind. */
    private static void term7Moves() {
        WindowRoll x = late(10, 3, 5, 100);
        for (int y = 0; y < 12; y++) {
            C.is("the least of YEAR " + y, x.span(0, y, 10, 0), 100 - 3 * Math.abs(y - 5));
            C.is("the greatest of YEAR " + y, x.span(0, y, 10, 1), 100 + 3 * Math.abs(y - 5));
        }
    }

    /** An object at a YEAR, with MOVES, and COUNTS of HOUSE 0 in YEARS that come to be known now. */
    private static WindowRoll late(int now, int moves, int... yearsAndCounts) {
        WindowRoll x = new WindowRoll();
        x.house(0, 0, 1, 1);
        x.terms(0, 0, 0, moves);
        Checks.go(x, now);
        for (int i = 0; i < yearsAndCounts.length; i += 2) {
            C.is("late", x.late(0, yearsAndCounts[i], yearsAndCounts[i + 1]), 0);
        }
        return x;
    }

    /** Term VII: "0 .. 1000 it is always". */
    private static void term7Always() {
        WindowRoll x = late(10, 20, 0, 5);
        C.is("0 at least", x.span(0, 1, 10, 0), 0);
        C.is("the greatest", x.span(0, 49, 10, 1), 985);
        C.is("1000 at most", x.span(0, 50, 10, 1), 1000);
        C.is("1000 at most", x.span(0, 99, 10, 1), 1000);
        x = late(10, 20, 0, 995);
        C.is("1000 at most", x.span(0, 1, 10, 1), 1000);
        C.is("the least", x.span(0, 49, 10, 0), 15);
        C.is("0 at least", x.span(0, 50, 10, 0), 0);
    }

    /** Term VII: "by all that the ROLL tells of that HOUSE": LINES ahead and behind, and no other HOUSE's. */
    private static void term7All() {
        WindowRoll x = late(20, 2, 4, 50, 8, 54, 14, 50);
        x.house(0, 0, 1, 1);
        x.late(1, 6, 900);
        int[][] due = {{3, 48, 52}, {4, 50, 50}, {5, 48, 52}, {6, 50, 54}, {7, 52, 56}, {8, 54, 54}, {9, 52, 56},
            {10, 50, 58}, {11, 48, 56}, {12, 46, 54}, {13, 48, 52}, {14, 50, 50}, {15, 48, 52}};
        for (int[] d : due) {
            C.is("the least of YEAR " + d[0], x.span(0, d[0], 20, 0), d[1]);
            C.is("the greatest of YEAR " + d[0], x.span(0, d[0], 20, 1), d[2]);
        }
    }

    /** Term VII: MOVES 0: what is told once is so always. */
    private static void term7NoMoves() {
        WindowRoll x = late(10, 0, 3, 7, 5, 7);
        for (int y : new int[] {0, 3, 4, 5, 99}) {
            C.is("the least", x.span(0, y, 10, 0), 7);
            C.is("the greatest", x.span(0, y, 10, 1), 7);
        }
    }

    /** Promise 26: "-2: there are none such": a collector (0 .. 3), a STREET (0 .. 3). */
    private static void promise26Refused() {
        for (int k = 0; k < 4; k++) {
            C.is("collector " + k, Towns.CENTURY.make().walk(k, 0), 1);
            C.is("STREET " + k, Towns.CENTURY.make().walk(0, k), k == 0 ? 1 : 0);
        }
        for (int none : Checks.beyond(0, 3)) {
            C.refused(Towns.TOWN, "collector " + none, x -> x.walk(none, 0), -2);
            C.refused(Towns.TOWN, "STREET " + none, x -> x.walk(0, none), -2);
        }
    }

    /** Promise 26: "-9: that one has walked it this YEAR", though nobody lived there; another one may. */
    private static void promise26Again() {
        C.refused(Towns.TOWN, "again", x -> x.walk(3, 0), -9);
        WindowRoll x = Towns.TOWN.make();
        C.is("another collector", x.walk(2, 0), 2);
        C.is("another STREET", x.walk(3, 1), 1);
        C.is("an empty one", x.walk(3, 3), 0);
        C.is("an empty one again", x.walk(3, 3), -9);
        x.house(3, 0, 1, 1);
        C.is("no more an empty one", x.walk(3, 3), -9);
        x.go();
        C.is("the next YEAR", x.walk(3, 0), 2);
        C.is("the next YEAR", x.walk(3, 3), 1);
    }

    /** Promise 26: "-3: there is no room for them", not even for some; it was not walked then. */
    private static void promise26Full() {
        C.refused(Towns.FULL, "no room", x -> x.walk(3, 0), -3);
        C.refused(Towns.FULL, "no room, and walked", x -> x.walk(0, 0), -9);
        WindowRoll x = almostFull();
        C.is("room for one of 14", x.walk(1, 0), -3);
        C.is("none was put there", x.count(5), 1199);
        for (int h = 1; h < 14; h++) {
            x.down(h);
        }
        C.is("it was not walked", x.walk(1, 0), 1);
        C.is("LINES", x.count(5), 1200);
        C.is("nobody needs no room", x.walk(1, 3), 0);
    }

    /** Promise 27: "by how much its COUNT is above (below: less) what is on this YEAR's ROLL". */
    private static void promise27HowMuch() {
        WindowRoll x = street();
        x.walk(0, 0);
        C.is("above", x.look(1, 0), 4);
        C.is("the same", x.look(1, 0), 0);
        x.make(0, 2, 1);
        x.make(0, 0, 1);
        C.is("below", x.look(1, 0), -5);
    }

    /** Promise 27: "(0 if it was not on it)": on this YEAR's ROLL; it is on it now. */
    private static void promise27NotOnIt() {
        WindowRoll x = street();
        C.is("not on it", x.look(0, 0), 0);
        C.is("it is on it", x.roll(0, 0, 0, 0), 7);
        x.go();
        C.is("on the ROLL of another YEAR", x.look(0, 0), 0);
        C.is("another HOUSE", x.look(0, 2), 0);
    }

    /** Promise 27: "-1000000: there are none such, it is DOWN". */
    private static void promise27Refused() {
        for (int none : Checks.beyond(0, 3)) {
            C.refused(Towns.TOWN, "collector " + none, x -> x.look(none, 0), -1000000);
            C.refused(Towns.TOWN, "HOUSE " + none, x -> x.look(0, none), -1000000);
        }
        C.refused(Towns.TOWN, "DOWN", x -> x.look(0, 3), -1000000);
        C.refused(Towns.FULL, "none such, and no room", x -> x.look(0, 16), -1000000);
        for (int k = 0; k < 4; k++) {
            WindowRoll x = Towns.TOWN.make();
            x.look(k, 1);
            C.is("collector " + k, x.roll(1, 2, 2, 2), k);
        }
    }

    /** Promise 27: "-1000003: there is no room". */
    private static void promise27Full() {
        C.refused(Towns.FULL, "no room", x -> x.look(0, 0), -1000003);
        WindowRoll x = almostFull();
        C.is("the last one", x.look(0, 0), 0);
        C.is("no room", x.look(0, 0), -1000003);
    }

    /** Promise 28: "so many minutes (0 .. 500)", a STREET 0 .. 3. */
    private static void promise28Refused() {
        WindowRoll x = gains(new int[] {1, 5});
        C.is("0 minutes", x.route(0, 0), 0);
        C.is("500 minutes", x.route(0, 500), 1);
        for (int minutes : Checks.beyond(0, 500)) {
            C.refused(Towns.TOWN, minutes + " minutes", y -> y.route(0, minutes), -2);
        }
        C.beyond(Towns.TOWN, "STREET", 0, 3, (y, street) -> y.route(street, 100), -2);
    }

    /** Promise 28: by this YEAR's ACT; nothing changes. */
    private static void promise28Year() {
        WindowRoll x = gains(new int[] {1, 5});
        Checks.act(x, 1, "");
        C.is("YEAR 0", x.route(0, 1), 1);
        C.is("again", x.route(0, 1), 1);
        C.is("no LINES", x.count(5), 0);
        x.go();
        C.is("YEAR 1", x.route(0, 1), 0);
    }

    /** Promise 29: "in a YEAR ahead of this one". */
    private static void promise29Years() {
        WindowRoll x = late(3, 0);
        C.is("the first", x.late(0, 0, 5), 0);
        C.is("the last", x.late(0, 2, 5), 0);
        C.is("this one", x.late(0, 3, 5), -2);
        C.is("in YEAR 0 there is none", late(0, 0).late(0, 0, 5), -2);
        C.is("YEAR 98 in 99", Towns.CENTURY.make().late(0, 98, 5), 0);
        C.is("YEAR 99 in 99", Towns.CENTURY.make().late(0, 99, 5), -2);
        C.beyond(Towns.TOWN, "YEAR", 0, 1, (y, year) -> y.late(0, year, 5), -2);
    }

    /** Promise 29: "so (0 .. 1000)". */
    private static void promise29Counts() {
        for (int count : new int[] {0, 1, 999, 1000}) {
            WindowRoll x = late(1, 0, 0, count);
            C.is("COUNT " + count, x.roll(0, 0, 1, 0), count);
        }
        C.beyond(Towns.TOWN, "COUNT", 0, 1000, (x, count) -> x.late(0, 0, count), -2);
    }

    /** Promise 29: "of a HOUSE"; one that is DOWN was there in a YEAR that has gone. */
    private static void promise29Houses() {
        C.beyond(Towns.TOWN, "HOUSE", 0, 3, (x, house) -> x.late(house, 0, 5), -2);
        WindowRoll x = Towns.TOWN.make();
        C.is("DOWN", x.late(3, 0, 5), 0);
        C.is("DOWN", x.roll(3, 0, 2, 0), 5);
    }

    /** Promise 29: "-3: there is no room", behind -2. */
    private static void promise29Full() {
        C.refused(Towns.FULL, "no room", x -> x.late(0, 0, 5), -3);
        C.refused(Towns.FULL, "not as told, and no room", x -> x.late(0, 18, 5), -2);
    }

    /** Promise 30: "The YEAR goes by: what all paid". */
    private static void promise30Paid() {
        WindowRoll x = street();
        x.walk(0, 0);
        x.walk(0, 1);
        C.is("all", x.go(), 90);
        C.is("YEAR", x.count(0), 1);
        WindowRoll y = new WindowRoll();
        for (int h = 0; h < 16; h++) {
            y.house(0, 0, 1, 1);
            Checks.room(y, h, 0, 0, 1);
        }
        Checks.act(y, 0, "from 1 pay 1000*1000*1000");
        y.walk(0, 0);
        C.is("the most", y.go(), 16000000000L);
        C.is("and again", y.go(), 16000000000L);
        C.is("of one", y.paid(15), 2000000000L);
    }

    /** Promise 30: "-9: 99 it is": the hundredth never goes by. */
    private static void promise30Last() {
        C.refused(Towns.CENTURY, "99 it is", x -> x.go(), -9);
        WindowRoll x = new WindowRoll();
        for (int y = 0; y < 99; y++) {
            C.is("YEAR", x.count(0), y);
            C.is("go", x.go(), 0);
        }
        C.is("YEAR", x.count(0), 99);
        C.is("99 it is", x.go(), -9);
        C.is("YEAR", x.count(0), 99);
    }

    /** Promise 31: "as it was known at the end of a YEAR (0 .. this one, now)". */
    private static void promise31Known() {
        WindowRoll x = street();
        x.walk(1, 0);
        C.is("now", x.roll(0, 0, 0, 0), 3);
        C.is("not yet", x.roll(0, 0, 1, 0), -1);
        x.go();
        x.late(0, 0, 20);
        x.go();
        x.late(0, 0, 30);
        int[] due = {3, 20, 30};
        for (int known = 0; known < 3; known++) {
            C.is("COUNT, known " + known, x.roll(0, 0, known, 0), due[known]);
            C.is("when, known " + known, x.roll(0, 0, known, 3), known);
        }
        for (int known : Checks.beyond(0, 2)) {
            C.is("known " + known, x.roll(0, 0, known, 0), -1);
        }
        C.is("the last YEAR", Towns.CENTURY.make().roll(0, 0, 99, 0), 1);
        C.is("none behind it", Towns.CENTURY.make().roll(0, 0, 100, 0), -1);
    }

    /** Promise 31: the last HOUSE in the last YEAR, and each in the first and the last one. */
    private static void promise31Corners() {
        WindowRoll x = new WindowRoll();
        for (int h = 0; h < 16; h++) {
            x.house(0, 0, 1, 1);
        }
        Checks.go(x, 99);
        for (int h = 0; h < 16; h++) {
            x.late(h, 0, 100 + h);
            x.late(h, 98, 900 + h);
        }
        C.is("walk", x.walk(0, 0), 16);
        x.terms(0, 0, 0, 20);
        for (int h = 0; h < 16; h++) {
            C.is("YEAR 0 of " + h, x.roll(h, 0, 99, 0), 100 + h);
            C.is("YEAR 98 of " + h, x.roll(h, 98, 99, 0), 900 + h);
            C.is("YEAR 99 of " + h, x.roll(h, 99, 99, 0), 0);
            C.is("no YEAR together of " + h, x.span(h, 0, 99, 0), -7);
        }
        C.is("habit", x.walk(1, 0), 16);
        C.is("of all", x.habit(0, 1, 1), 16);
        for (int h = 0; h < 16; h++) {
            x.late(h, 98, 19);
            C.is("together of " + h, x.span(h, 99, 99, 1), 0);
            C.is("together of " + h, x.span(h, 97, 99, 1), 39);
        }
    }

    /** Promise 31: what 0 COUNT, 1 how (0 walk, 1 look, 2 late), 2 collector (NONE), 3 when. */
    private static void promise31What() {
        WindowRoll x = street();
        x.walk(3, 0);
        x.look(2, 1);
        x.go();
        x.go();
        x.late(2, 1, 8);
        int[][] due = {{3, 0, 3, 0}, {7, 1, 2, 0}, {8, 2, -1, 2}};
        for (int h = 0; h < 3; h++) {
            for (int what = 0; what < 4; what++) {
                C.is("HOUSE " + h + " what " + what, x.roll(h, h / 2, 2, what), due[h][what]);
            }
        }
    }

    /** Promise 31: "NONE: nothing, or no such ones". */
    private static void promise31None() {
        C.refused(Towns.TOWN, "nothing", x -> x.roll(1, 2, 2, 0), -1);
        C.beyond(Towns.TOWN, "HOUSE", 0, 3, (x, house) -> x.roll(house, 0, 0, 0), -1);
        C.beyond(Towns.TOWN, "YEAR", 0, 99, (x, year) -> x.roll(0, year, 0, 0), -1);
        C.beyond(Towns.TOWN, "known", 0, 2, (x, known) -> x.roll(0, 0, known, 0), -1);
        C.beyond(Towns.TOWN, "what", 0, 3, (x, what) -> x.roll(0, 0, 0, what), -1);
        C.is("a YEAR to come", Towns.TOWN.make().roll(0, 99, 2, 0), -1);
    }

    /** Promise 32: "as known at the end of a YEAR". */
    private static void promise32Known() {
        WindowRoll x = late(1, 2, 0, 50);
        x.go();
        x.late(0, 0, 60);
        C.is("known 0", x.span(0, 1, 0, 0), -1);
        C.is("known 1", x.span(0, 1, 1, 0), 48);
        C.is("known 1", x.span(0, 1, 1, 1), 52);
        C.is("known 2", x.span(0, 1, 2, 0), 58);
        C.is("known 2", x.span(0, 1, 2, 1), 62);
    }

    /** Promise 32: "NONE: nothing is on the ROLL, or no such ones". */
    private static void promise32None() {
        C.refused(Towns.TOWN, "nothing", x -> x.span(3, 0, 2, 0), -1);
        C.beyond(Towns.TOWN, "HOUSE", 0, 3, (x, house) -> x.span(house, 0, 2, 0), -1);
        C.beyond(Towns.TOWN, "YEAR", 0, 99, (x, year) -> x.span(0, year, 2, 0), -1);
        C.beyond(Towns.TOWN, "known", 0, 2, (x, known) -> x.span(0, 0, known, 0), -1);
        C.beyond(Towns.TOWN, "what", 0, 1, (x, what) -> x.span(0, 0, 2, what), -1);
        C.is("YEAR 99", Towns.TOWN.make().span(2, 99, 2, 0), 0);
    }

    /** Promise 32: "-7: what is on it does not go together by MOVES", in whatever YEAR is asked for. */
    private static void promise32NotTogether() {
        for (int count : new int[] {91, 90, 109, 110}) {
            WindowRoll x = late(10, 3, 2, 100, 5, count);
            boolean fits = count == 91 || count == 109;
            for (int y : new int[] {0, 2, 3, 5, 99}) {
                C.is(count + " in YEAR " + y, x.span(0, y, 10, 0) == -7, !fits);
                C.is(count + " in YEAR " + y, x.span(0, y, 10, 1) == -7, !fits);
            }
        }
        WindowRoll x = late(10, 0, 2, 5, 3, 6);
        C.is("MOVES 0", x.span(0, 2, 10, 0), -7);
        x.terms(0, 0, 0, 1);
        C.is("MOVES 1", x.span(0, 2, 10, 0), 5);
        x = late(10, 3, 2, 100, 5, 110, 5, 109);
        C.is("LINES that tell no more do not count", x.span(0, 5, 10, 1), 109);
        x = late(10, 2, 0, 10, 3, 16, 4, 10);
        C.is("the later two", x.span(0, 0, 10, 0), -7);
    }

    /** Promise 33: "By how much one collector counted more than another one": sum, how many, least, greatest. */
    private static void promise33What() {
        WindowRoll x = street();
        x.walk(0, 0);
        x.make(0, 0, 1);
        x.make(2, 1, 1);
        x.walk(3, 0);
        int[] due = {1 + 2, 2, 1, 2};
        int[] about = {-3, 2, -2, -1};
        for (int what = 0; what < 4; what++) {
            C.is("what " + what, x.habit(0, 3, what), due[what]);
            C.is("the other way about " + what, x.habit(3, 0, what), about[what]);
        }
    }

    /** Promise 33: "in HOUSES and YEARS of which both walked": not looks, late ones, other YEARS or STREETS. */
    private static void promise33Both() {
        WindowRoll x = street();
        x.walk(0, 0);
        x.look(1, 0);
        x.walk(1, 1);
        x.go();
        x.walk(1, 0);
        x.late(0, 0, 500);
        for (int what = 0; what < 4; what++) {
            C.is("of none " + what, x.habit(0, 1, what), 0);
        }
        x.walk(0, 0);
        x.look(0, 2);
        C.is("two HOUSES", x.habit(0, 1, 1), 2);
        C.is("no look", x.habit(0, 1, 3), 0);
        x.down(0);
        C.is("DOWN was there", x.habit(0, 1, 1), 2);
    }

    /** Promise 33: "0 of none", though what there is of others is not 0. */
    private static void promise33OfNone() {
        for (int what = 0; what < 4; what++) {
            int of = what;
            C.refused(Towns.TOWN, "of none " + what, x -> x.habit(2, 3, of), 0);
        }
    }

    /** Promise 33: least and greatest of some that are all above 0, or all below. */
    private static void promise33OneSide() {
        WindowRoll x = street();
        x.make(0, 0, 1);
        x.make(2, 1, 1);
        x.walk(0, 0);
        x.make(0, 0, 0);
        x.make(2, 1, 0);
        x.walk(1, 0);
        C.is("the least", x.habit(0, 1, 2), -2);
        C.is("the greatest", x.habit(0, 1, 3), -1);
        C.is("the least", x.habit(1, 0, 2), 1);
        C.is("the greatest", x.habit(1, 0, 3), 2);
    }

    /** Promise 33: "-1000000: there are no such two" (and another what). */
    private static void promise33Refused() {
        for (int none : Checks.beyond(0, 3)) {
            C.refused(Towns.TOWN, "collector " + none, x -> x.habit(none, 0, 0), -1000000);
            C.refused(Towns.TOWN, "the other one " + none, x -> x.habit(0, none, 0), -1000000);
            C.refused(Towns.TOWN, "what " + none, x -> x.habit(0, 1, none), -1000000);
        }
        for (int one = 0; one < 4; one++) {
            int of = one;
            C.refused(Towns.TOWN, "one is no two", x -> x.habit(of, of, 0), -1000000);
        }
    }

    /** Promise 42: "What a HOUSE paid in all; -2: there is none such". */
    private static void promise42Paid() {
        WindowRoll x = street();
        C.is("nothing yet", x.paid(0), 0);
        x.walk(0, 0);
        for (int y = 1; y <= 99; y++) {
            x.go();
            C.is("behind YEAR " + y, x.paid(0), 30 * y);
        }
        x.go();
        C.is("no more", x.paid(0), 30 * 99);
        x.down(0);
        C.is("DOWN", x.paid(0), 30 * 99);
        C.beyond(Towns.TOWN, "HOUSE", 0, 3, (y, house) -> y.paid(house), -2);
        C.is("DOWN", Towns.TOWN.make().paid(3), 0);
    }
}
