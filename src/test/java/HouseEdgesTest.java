/** The edges of Term I and of promises 1 to 9, 40 and 41: each test stands for one sentence of the document. */
public final class HouseEdgesTest {
    private static final Checks C = new Checks();

    public static void main(String[] args) throws Exception {
        C.runAll(HouseEdgesTest.class);
    }

    /** Term I: "YEARS go from 0 on, to 99". */
    private static void term1Years() {
        WindowRoll x = Checks.oneRoom(1);
        C.is("the first", x.count(0), 0);
        Checks.act(x, 0, "counts 2");
        C.is("the first", x.weight(0, 0, 0), 2);
        C.is("the last", x.weight(0, 0, 99), 2);
        Checks.go(x, 120);
        C.is("the last", x.count(0), 99);
        C.is("what can be done in it", x.walk(0, 0), 1);
        C.is("the last", x.roll(0, 99, 99, 0), 2);
    }

    /** Term I: HOUSES have "ROOMS 0 .. (6 at most)", each with a KIND and a floor of its own. */
    private static void term1Rooms() {
        WindowRoll x = new WindowRoll();
        x.house(0, 0, 1, 1);
        for (int r = 0; r < 6; r++) {
            C.is("ROOM " + r, Checks.room(x, 0, r % 4, r, 1), r);
        }
        for (int o = 0; o < 6; o++) {
            C.is("the ROOM", x.opening(0, o, 0), o);
            C.is("its KIND", x.opening(0, o, 3), o % 4);
            C.is("its floor", x.opening(0, o, 2), o);
        }
        C.is("ROOMS", x.houseOf(0, 4), 6);
        C.is("a 7th", Checks.room(x, 0, 0, 0, 1), -3);
    }

    /** Term I: OPENINGS are "open, bricked or boarded; EXCUSED or not", the one whatever the other. */
    private static void term1StateAndExcuse() {
        WindowRoll x = Checks.oneRoom(1);
        x.held(0, 1, 0, false, false, false);
        for (int state = 0; state < 3; state++) {
            x.make(0, 0, state);
            C.is("EXCUSED", x.appeal(0, 0), 1);
            C.is("the state stays", x.opening(0, 0, 6), state);
            x.make(0, 0, (state + 1) % 3);
            C.is("EXCUSED stays", x.opening(0, 0, 7), state + 1);
            x.overrule(state + 1);
            C.is("the state stays", x.opening(0, 0, 6), (state + 1) % 3);
        }
    }

    /** Term I: "HOUSES 0 .., 16 at most". */
    private static void term1Houses() {
        WindowRoll x = new WindowRoll();
        for (int h = 0; h < 16; h++) {
            C.is("HOUSE " + h, x.house(0, 0, 1, 1), h);
        }
        C.is("there are", x.count(1), 16);
        C.is("the last one", x.houseOf(15, 5), 0);
        C.is("none behind it", x.houseOf(16, 5), -2);
    }

    /** Term I: HOUSES "stand in STREETS 0 .. 3 till they are DOWN". */
    private static void term1Streets() {
        WindowRoll x = new WindowRoll();
        for (int s = 0; s < 4; s++) {
            x.house(s, 0, 1, 1);
        }
        for (int s = 0; s < 4; s++) {
            C.is("one in STREET " + s, x.walk(0, s), 1);
            x.down(s);
            C.is("none in STREET " + s, x.walk(1, s), 0);
        }
    }

    /** Term I: "OPENINGS 0 .. (10 at most, numbered by HOUSES as they come)". */
    private static void term1NumbersOfOpenings() {
        WindowRoll x = new WindowRoll();
        x.house(0, 0, 1, 1);
        x.house(0, 0, 1, 1);
        Checks.room(x, 0, 0, 0, 1, 2);
        Checks.room(x, 1, 0, 0, 3);
        Checks.room(x, 0, 0, 0, 4, 5, 6, 7, 8, 9, 10, 11);
        int[] panes = {1, 2, 4, 5, 6, 7, 8, 9, 10, 11};
        for (int o = 0; o < 10; o++) {
            C.is("panes of " + o, x.opening(0, o, 1), panes[o]);
            C.is("ROOM of " + o, x.opening(0, o, 0), o < 2 ? 0 : 1);
        }
        C.is("each HOUSE from 0 on", x.opening(1, 0, 1), 3);
        C.is("no more", x.opening(1, 1, 1), -2);
    }

    /** Term I: Light of a ROOM: LIGHT times the panes "of its open OPENINGS". */
    private static void term1LightOfOpenOnes() {
        WindowRoll x = Checks.oneRoom(1, 2, 4);
        C.is("all open", x.houseOf(0, 7), 21);
        x.make(0, 1, 1);
        C.is("one bricked", x.houseOf(0, 7), 15);
        x.make(0, 2, 2);
        C.is("one boarded", x.houseOf(0, 7), 3);
        x.make(0, 0, 1);
        C.is("none open", x.houseOf(0, 7), 0);
    }

    /** Term I: "but of ENOUGH panes at most". */
    private static void term1Enough() {
        for (int enough : new int[] {0, 1, 19, 20, 21, 200}) {
            WindowRoll x = Checks.oneRoom(15, 5);
            x.light(0, 7, enough);
            C.is("20 panes, ENOUGH " + enough, x.houseOf(0, 7), 7 * Math.min(20, enough));
        }
    }

    /** Term I: light "of a HOUSE that of its ROOMS together", each ROOM with ENOUGH of its own KIND. */
    private static void term1LightOfRooms() {
        WindowRoll x = new WindowRoll();
        x.house(0, 0, 1, 1);
        C.is("no ROOM", x.houseOf(0, 7), 0);
        Checks.room(x, 0, 2, 0);
        C.is("no OPENING", x.houseOf(0, 7), 0);
        Checks.room(x, 0, 2, 0, 12);
        Checks.room(x, 0, 2, 0, 13);
        Checks.room(x, 0, 3, 0, 11);
        x.light(3, 2, 10);
        C.is("together", x.houseOf(0, 7), 36 + 36 + 20);
    }

    /** Promise 1: no HOUSES, ACTS, CASES, LINES; YEAR 0; no bytes, no rows. */
    private static void promise1Counts() {
        for (int what = 0; what <= 9; what++) {
            C.is("count " + what, new WindowRoll().count(what), 0);
        }
    }

    /** Promise 1: "No STREETS' HOUSES". */
    private static void promise1Houses() {
        WindowRoll x = new WindowRoll();
        for (int s = 0; s < 4; s++) {
            C.is("walk " + s, x.walk(0, s), 0);
            C.is("route " + s, x.route(s, 500), 0);
        }
        C.is("houseOf", x.houseOf(0, 0), -2);
        C.is("heap", x.heap(0), 0);
        C.is("go", x.go(), 0);
        C.is("the first one is 0", x.house(0, 0, 1, 1), 0);
    }

    /** Promise 1: no ACTS. */
    private static void promise1Acts() {
        WindowRoll x = Checks.oneRoom(1);
        for (int y = 0; y < 100; y++) {
            C.is("tax " + y, x.tax(0, y, 1000), 0);
            C.is("weight " + y, x.weight(0, 0, y), 1);
        }
    }

    /** Promise 1: no CASES. */
    private static void promise1Cases() {
        WindowRoll x = Checks.oneRoom(1);
        C.is("heldOf", x.heldOf(0, 7), -2);
        C.is("nearest", x.nearest(0, 0), -1);
        C.is("overrule", x.overrule(0), -2);
        C.is("the first one is 0", x.held(0, 1, 0, false, false, true), 0);
    }

    /** Promise 1: no ROLLS. */
    private static void promise1Rolls() {
        WindowRoll x = Checks.oneRoom(1);
        for (int y = 0; y < 100; y++) {
            C.is("roll " + y, x.roll(0, y, 0, 0), -1);
            C.is("span " + y, x.span(0, y, 0, 0), -1);
        }
        C.is("ask", Checks.ask(x, 0, "number"), 0);
        C.is("answer", x.answer(0, 2), 0);
    }

    /** Promise 1: "LIGHT 3, ENOUGH 12 of all KINDS". */
    private static void promise1Light() {
        for (int kind = 0; kind < 4; kind++) {
            for (int panes = 11; panes <= 13; panes++) {
                WindowRoll x = new WindowRoll();
                x.house(0, 0, 1, 1);
                Checks.room(x, 0, kind, 0, panes);
                C.is(panes + " panes, KIND " + kind, x.houseOf(0, 7), 3 * Math.min(12, panes));
            }
        }
    }

    /** Promise 1: "BRICKING 20, OPENING 30": what a change that is worth it costs. */
    private static void promise1Costs() {
        WindowRoll x = Checks.oneRoom(1);
        Checks.act(x, 0, "from 1 pay 100");
        C.is("one is bricked", x.plan(0, 1), -20);
        x = Checks.oneRoom(12);
        x.make(0, 0, 1);
        C.is("one is opened", x.plan(0, 1), 36 - 30);
    }

    /** Promise 1: "NEAR 5". */
    private static void promise1Near() {
        WindowRoll x = Checks.oneRoom(1);
        x.held(0, 7, 0, false, false, true);
        C.is("6 away", x.nearest(0, 0), -1);
        x.held(0, 6, 0, false, false, true);
        C.is("5 away", x.nearest(0, 0), 1);
    }

    /** Promise 1: "MOVES 2". */
    private static void promise1Moves() {
        WindowRoll x = Checks.oneRoom(1);
        x.go();
        x.late(0, 0, 500);
        C.is("the least", x.span(0, 1, 1, 0), 498);
        C.is("the greatest", x.span(0, 1, 1, 1), 502);
    }

    /** Promise 1: "PLACES have nothing". */
    private static void promise1Places() {
        WindowRoll x = new WindowRoll();
        for (int p = 0; p < 4; p++) {
            C.is("write", x.write(p, 0, 0), -5);
            C.is("tear", x.tear(p), false);
        }
    }

    /** Promise 1: "an empty TAPE". */
    private static void promise1Tape() {
        C.is("end 1", new WindowRoll().end(1), -1);
        C.is("end 0", new WindowRoll().end(0), 0);
        C.is("a text of no RULES", new WindowRoll().act(0), 0);
        C.is("nothing is ASKED", new WindowRoll().ask(0), -4);
    }

    /** Promise 2: "LIGHT (0 .. 50)". */
    private static void promise2Light() {
        for (int light : new int[] {0, 1, 50}) {
            WindowRoll x = Checks.oneRoom(10);
            C.is("light " + light, x.light(0, light, 200), 0);
            C.is("LIGHT " + light, x.houseOf(0, 7), 10 * light);
        }
        C.beyond(Towns.TOWN, "LIGHT", 0, 50, (x, light) -> x.light(1, light, 20), -2);
    }

    /** Promise 2: "ENOUGH (0 .. 200)". */
    private static void promise2Enough() {
        for (int enough : new int[] {0, 1, 199, 200}) {
            WindowRoll x = Checks.oneRoom(30, 30, 30, 30, 30, 30, 30);
            C.is("enough " + enough, x.light(0, 1, enough), 0);
            C.is("ENOUGH " + enough, x.houseOf(0, 7), enough);
        }
        C.beyond(Towns.TOWN, "ENOUGH", 0, 200, (x, enough) -> x.light(1, 5, enough), -2);
    }

    /** Promise 2: "of a KIND (0 .. 3)", and of no other one. */
    private static void promise2Kind() {
        for (int kind = 0; kind < 4; kind++) {
            WindowRoll x = new WindowRoll();
            x.house(0, 0, 1, 1);
            for (int k = 0; k < 4; k++) {
                Checks.room(x, 0, k, 0, 2);
            }
            C.is("kind " + kind, x.light(kind, 40, 1), 0);
            C.is("of KIND " + kind + " alone", x.houseOf(0, 7), 40 + 3 * 6);
        }
        C.beyond(Towns.TOWN, "KIND", 0, 3, (x, kind) -> x.light(kind, 5, 20), -2);
    }

    /** Promise 3: "The costs of BRICKING" are 0 .. 1000. */
    private static void promise3Bricking() {
        for (int cost : new int[] {0, 1, 1000}) {
            WindowRoll x = Checks.oneRoom(1);
            Checks.act(x, 0, "from 1 pay 9999");
            C.is("terms", x.terms(cost, 7, 7, 7), 0);
            C.is("BRICKING " + cost, x.plan(0, 1), -cost);
        }
        C.beyond(Towns.TOWN, "BRICKING", 0, 1000, (x, cost) -> x.terms(cost, 15, 6, 9), -2);
    }

    /** Promise 3: the costs of "OPENING one (0 .. 1000)". */
    private static void promise3Opening() {
        for (int cost : new int[] {0, 1, 999, 1000}) {
            WindowRoll x = Checks.oneRoom(30);
            x.light(0, 50, 200);
            x.make(0, 0, 1);
            C.is("terms", x.terms(7, cost, 7, 7), 0);
            C.is("OPENING " + cost, x.plan(0, 1), 1500 - cost);
        }
        C.beyond(Towns.TOWN, "OPENING", 0, 1000, (x, cost) -> x.terms(10, cost, 6, 9), -2);
    }

    /** Promise 3: "NEAR (0 .. 60)". */
    private static void promise3Near() {
        WindowRoll x = Checks.oneRoom(1, 2);
        x.held(0, 1, 0, false, false, true);
        C.is("terms", x.terms(0, 0, 0, 0), 0);
        C.is("0 away", x.nearest(0, 0), 0);
        C.is("1 away", x.nearest(0, 1), -1);
        x.held(3, 30, 5, true, true, true);
        x.overrule(0);
        C.is("terms", x.terms(0, 0, 60, 0), 0);
        C.is("as far as can be", x.nearest(0, 0), 1);
        C.beyond(Towns.TOWN, "NEAR", 0, 60, (y, near) -> y.terms(10, 15, near, 9), -2);
    }

    /** Promise 3: "MOVES (0 .. 20)". */
    private static void promise3Moves() {
        for (int moves : new int[] {0, 1, 20}) {
            WindowRoll x = Checks.oneRoom(1);
            x.go();
            x.late(0, 0, 100);
            C.is("terms", x.terms(0, 0, 0, moves), 0);
            C.is("MOVES " + moves, x.span(0, 1, 1, 1), 100 + moves);
        }
        C.beyond(Towns.TOWN, "MOVES", 0, 20, (x, moves) -> x.terms(10, 15, 6, moves), -2);
    }

    /** Promise 4: "-2: STREET is not 0 .. 3". */
    private static void promise4Street() {
        WindowRoll x = new WindowRoll();
        C.is("STREET 0", x.house(0, 5, 1, 1), 0);
        C.is("STREET 3", x.house(3, 5, 1, 1), 1);
        C.is("STREET 3", x.houseOf(1, 0), 3);
        C.beyond(Towns.TOWN, "STREET", 0, 3, (y, street) -> y.house(street, 5, 1, 1), -2);
    }

    /** Promise 4: -2: "WORTH not 0 .. 10000". */
    private static void promise4Worth() {
        WindowRoll x = new WindowRoll();
        C.is("WORTH 0", x.house(0, 0, 1, 1), 0);
        C.is("WORTH 10000", x.house(0, 10000, 1, 1), 1);
        C.is("WORTH 0", x.houseOf(0, 1), 0);
        C.is("WORTH 10000", x.houseOf(1, 1), 10000);
        C.beyond(Towns.TOWN, "WORTH", 0, 10000, (y, worth) -> y.house(0, worth, 1, 1), -2);
    }

    /** Promise 4: -2: "FAMILIES not 1 .. 9". */
    private static void promise4Families() {
        WindowRoll x = new WindowRoll();
        C.is("FAMILIES 1", x.house(0, 0, 1, 1), 0);
        C.is("FAMILIES 9", x.house(0, 0, 9, 1), 1);
        C.is("FAMILIES 1", x.houseOf(0, 2), 1);
        C.is("FAMILIES 9", x.houseOf(1, 2), 9);
        C.beyond(Towns.TOWN, "FAMILIES", 1, 9, (y, families) -> y.house(0, 0, families, 1), -2);
    }

    /** Promise 4: -2: "MINUTES not 1 .. 60". */
    private static void promise4Minutes() {
        WindowRoll x = new WindowRoll();
        C.is("MINUTES 1", x.house(0, 0, 1, 1), 0);
        C.is("MINUTES 60", x.house(0, 0, 1, 60), 1);
        C.is("MINUTES 1", x.houseOf(0, 3), 1);
        C.is("MINUTES 60", x.houseOf(1, 3), 60);
        C.beyond(Towns.TOWN, "MINUTES", 1, 60, (y, minutes) -> y.house(0, 0, 1, minutes), -2);
    }

    /** Promise 4: "-3: there are 16"; -2 is told ahead of it; one that is DOWN is there, too. */
    private static void promise4Full() {
        C.refused(Towns.FULL, "a 17th", x -> x.house(0, 0, 1, 1), -3);
        C.refused(Towns.FULL, "a 17th that is not as told", x -> x.house(4, 0, 1, 1), -2);
        WindowRoll x = Towns.FULL.make();
        x.down(15);
        C.is("DOWN makes no way for one", x.house(0, 0, 1, 1), -3);
    }

    /** Promise 5: -2: "there is no such HOUSE (or it is DOWN)". */
    private static void promise5House() {
        C.beyond(Towns.TOWN, "HOUSE", 0, 3, (x, house) -> x.room(house, 0, 0, 0), -2);
        C.refused(Towns.TOWN, "DOWN", x -> x.room(3, 0, 0, 0), -2);
    }

    /** Promise 5: -2: no such "KIND". */
    private static void promise5Kind() {
        for (int kind = 0; kind < 4; kind++) {
            WindowRoll x = new WindowRoll();
            x.house(0, 0, 1, 1);
            C.is("KIND " + kind, Checks.room(x, 0, kind, 0, 1), 0);
            C.is("KIND " + kind, x.opening(0, 0, 3), kind);
        }
        C.beyond(Towns.TOWN, "KIND", 0, 3, (x, kind) -> x.room(0, kind, 0, 0), -2);
    }

    /** Promise 5: "on a floor (0 .. 5)". */
    private static void promise5Floor() {
        for (int floor = 0; floor < 6; floor++) {
            WindowRoll x = new WindowRoll();
            x.house(0, 0, 1, 1);
            C.is("floor " + floor, Checks.room(x, 0, 0, floor, 1), 0);
            C.is("floor " + floor, x.opening(0, 0, 2), floor);
        }
        C.beyond(Towns.TOWN, "floor", 0, 5, (x, floor) -> x.room(0, 0, floor, 0), -2);
    }

    /** Promise 5: -2: no such "PLACE"; "-5: the PLACE has nothing". */
    private static void promise5Place() {
        C.beyond(Towns.TOWN, "PLACE", 0, 3, (x, place) -> x.room(0, 0, 0, place), -2);
        C.refused(Towns.TOWN, "nothing", x -> x.room(0, 0, 0, 3), -5);
        C.refused(Towns.TOWN, "nothing, and no such KIND", x -> x.room(0, 4, 0, 3), -2);
        C.refused(Towns.FULL, "nothing, and 6 ROOMS", x -> x.room(0, 0, 0, 1), -5);
    }

    /** Promise 5: "so many panes (1 .. 30), 100 more if it has a lattice; below 0: at the back". */
    private static void promise5Numbers() {
        for (int panes : new int[] {1, 2, 29, 30}) {
            for (int way = 0; way < 4; way++) {
                WindowRoll x = new WindowRoll();
                x.house(0, 0, 1, 1);
                int number = (panes + (way > 1 ? 100 : 0)) * (way % 2 == 1 ? -1 : 1);
                C.is("number " + number, Checks.room(x, 0, 0, 0, number), 0);
                C.is("panes of " + number, x.opening(0, 0, 1), panes);
                C.is("back of " + number, x.opening(0, 0, 4), way % 2);
                C.is("lattice of " + number, x.opening(0, 0, 5), way / 2);
                C.is("open", x.opening(0, 0, 6), 0);
                C.is("not EXCUSED", x.opening(0, 0, 7), -1);
            }
        }
    }

    /** Promise 5: "-4: a number is not as told", whichever one it is. */
    private static void promise5NotAsTold() {
        long[] bad = {0, 31, 99, 100, 131, 1001, -31, -99, -100, -131, Long.MIN_VALUE, Long.MIN_VALUE + 1,
            Long.MAX_VALUE, (1L << 32) + 1, -(1L << 32) - 1, (1L << 63) + 5};
        for (long number : bad) {
            for (int at = 0; at < 3; at++) {
                long[] all = {5, -6, 107};
                all[at] = number;
                WindowRoll x = new WindowRoll();
                x.house(0, 0, 1, 1);
                C.is(number + " at " + at, Checks.room(x, 0, 0, 0, all), -4);
                C.is("no ROOM", x.houseOf(0, 4), 0);
                C.is("no OPENING", x.houseOf(0, 5), 0);
            }
        }
        C.refused(Towns.TOWN, "a row of 0", x -> x.room(0, 0, 0, 2), -4);
    }

    /** Promise 5: -4 is told ahead of -3. */
    private static void promise5NotAsToldAndFull() {
        WindowRoll x = Towns.FULL.make();
        C.is("of 6 ROOMS", Checks.room(x, 0, 0, 0, 31), -4);
        C.is("of 10 OPENINGS", Checks.room(x, 1, 0, 0, 0), -4);
    }

    /** Promise 5: "-3: the HOUSE has 6 ROOMS". */
    private static void promise5Rooms() {
        WindowRoll x = new WindowRoll();
        x.house(0, 0, 1, 1);
        for (int r = 0; r < 6; r++) {
            C.is("its number", Checks.room(x, 0, 0, 0, 1), r);
            C.is("ROOMS", x.houseOf(0, 4), r + 1);
        }
        C.is("a 7th", Checks.room(x, 0, 0, 0, 1), -3);
        C.is("ROOMS", x.houseOf(0, 4), 6);
        C.is("OPENINGS", x.houseOf(0, 5), 6);
        C.is("a 7th without OPENINGS", Checks.room(x, 0, 0, 0), -3);
        C.refused(Towns.FULL, "a 7th", y -> y.room(0, 0, 0, 3), -3);
    }

    /** Promise 5: -3: it "would have more than 10 OPENINGS"; with 10 all is well. */
    private static void promise5Openings() {
        for (int first = 0; first <= 10; first++) {
            WindowRoll x = new WindowRoll();
            x.house(0, 0, 1, 1);
            C.is("the first ROOM", Checks.room(x, 0, 0, 0, ones(first)), 0);
            C.is("11 in all", Checks.room(x, 0, 0, 0, ones(11 - first)), -3);
            C.is("none of them came", x.houseOf(0, 5), first);
            C.is("no ROOM came", x.houseOf(0, 4), 1);
            C.is("10 in all", Checks.room(x, 0, 0, 0, ones(10 - first)), 1);
            C.is("they came", x.houseOf(0, 5), 10);
            C.is("one more", Checks.room(x, 0, 0, 0, 1), -3);
            C.is("a ROOM without any", Checks.room(x, 0, 0, 0), 2);
        }
        WindowRoll x = new WindowRoll();
        x.house(0, 0, 1, 1);
        C.is("60 at once", Checks.room(x, 0, 0, 0, ones(60)), -3);
        C.refused(Towns.FULL, "an 11th", y -> y.room(1, 0, 0, 3), -3);
    }

    private static long[] ones(int n) {
        long[] all = new long[n];
        java.util.Arrays.fill(all, 1);
        return all;
    }

    /** Promise 6: "open (0), bricked (1), or boarded (2) from now on: what it was". */
    private static void promise6States() {
        for (int was = 0; was < 3; was++) {
            for (int is = 0; is < 3; is++) {
                WindowRoll x = Checks.oneRoom(1, 1);
                x.make(0, 1, was);
                C.is("what it was", x.make(0, 1, is), was);
                C.is("what it is", x.opening(0, 1, 6), is);
                C.is("the other one stays", x.opening(0, 0, 6), 0);
            }
        }
    }

    /** Promise 6: "-2: there is none such, no such state, the HOUSE is DOWN". */
    private static void promise6Refused() {
        C.beyond(Towns.TOWN, "HOUSE", 0, 3, (x, house) -> x.make(house, 0, 1), -2);
        C.beyond(Towns.TOWN, "OPENING", 0, 3, (x, opening) -> x.make(0, opening, 1), -2);
        C.beyond(Towns.TOWN, "state", 0, 2, (x, state) -> x.make(0, 0, state), -2);
        C.refused(Towns.TOWN, "DOWN", x -> x.make(3, 0, 1), -2);
        C.refused(Towns.FULL, "a HOUSE without OPENINGS", x -> x.make(0, 0, 1), -2);
    }

    /** Promise 7: "Other WORTH (0 .. 10000)". */
    private static void promise7Worth() {
        for (int worth : new int[] {0, 10000}) {
            WindowRoll x = Towns.TOWN.make();
            C.is("worth " + worth, x.worth(0, worth, 5), 0);
            C.is("WORTH", x.houseOf(0, 1), worth);
            C.is("another HOUSE's stays", x.houseOf(1, 1), 200);
        }
        C.beyond(Towns.TOWN, "WORTH", 0, 10000, (x, worth) -> x.worth(0, worth, 5), -2);
    }

    /** Promise 7: "FAMILIES (1 .. 9)". */
    private static void promise7Families() {
        for (int families : new int[] {1, 9}) {
            WindowRoll x = Towns.TOWN.make();
            C.is("families " + families, x.worth(0, 5, families), 0);
            C.is("FAMILIES", x.houseOf(0, 2), families);
            C.is("another HOUSE's stay", x.houseOf(1, 2), 3);
        }
        C.beyond(Towns.TOWN, "FAMILIES", 1, 9, (x, families) -> x.worth(0, 5, families), -2);
    }

    /** Promise 7: "of a HOUSE"; the document does not rule out one that is DOWN. */
    private static void promise7House() {
        C.beyond(Towns.TOWN, "HOUSE", 0, 3, (x, house) -> x.worth(house, 5, 5), -2);
        WindowRoll x = Towns.TOWN.make();
        C.is("DOWN", x.worth(3, 5, 6), 0);
        C.is("DOWN", x.houseOf(3, 1), 5);
    }

    /** Promise 8: joined "with all that are with either". */
    private static void promise8Joined() {
        WindowRoll x = houses(7);
        C.is("joined", x.roof(6, 5), 1);
        C.is("joined", x.roof(2, 3), 1);
        C.is("all of both", x.roof(5, 3), 1);
        for (int h : new int[] {2, 3, 5, 6}) {
            C.is("the least of " + h, x.houseOf(h, 8), 2);
        }
        for (int h : new int[] {0, 1, 4}) {
            C.is("by itself is " + h, x.houseOf(h, 8), h);
        }
    }

    /** Promise 8: "if they are with one another, the first one is by itself again", the others are not. */
    private static void promise8Parted() {
        for (int first = 0; first < 3; first++) {
            for (int other = 0; other < 3; other++) {
                WindowRoll x = houses(3);
                x.roof(0, 1);
                x.roof(1, 2);
                if (first != other) {
                    C.is("parted", x.roof(first, other), 0);
                    for (int h = 0; h < 3; h++) {
                        C.is("the least of " + h, x.houseOf(h, 8), h == first ? h : first == 0 ? 1 : 0);
                    }
                    C.is("and joined again", x.roof(first, other), 1);
                    C.is("the least", x.houseOf(2, 8), 0);
                }
            }
        }
    }

    private static WindowRoll houses(int n) {
        WindowRoll x = new WindowRoll();
        for (int h = 0; h < n; h++) {
            x.house(h % 4, 0, 1, 1);
        }
        return x;
    }

    /** Promise 8: all 16 under one roof, and each by itself again. */
    private static void promise8All() {
        WindowRoll x = houses(16);
        for (int h = 15; h > 0; h--) {
            C.is("joined", x.roof(h, h - 1), 1);
        }
        C.is("the least of all", x.houseOf(15, 8), 0);
        for (int h = 0; h < 15; h++) {
            C.is("parted", x.roof(h, 15), 0);
            C.is("the least of those that stay", x.houseOf(15, 8), h + 1);
        }
    }

    /** Promise 8: "-2: there are no such two, or one is DOWN". */
    private static void promise8Refused() {
        for (int house : Checks.beyond(0, 3)) {
            C.refused(Towns.TOWN, "the first " + house, x -> x.roof(house, 0), -2);
            C.refused(Towns.TOWN, "the other " + house, x -> x.roof(0, house), -2);
        }
        C.refused(Towns.TOWN, "the first is DOWN", x -> x.roof(3, 0), -2);
        C.refused(Towns.TOWN, "the other is DOWN", x -> x.roof(0, 3), -2);
        C.refused(Towns.TOWN, "one HOUSE is no two", x -> x.roof(1, 1), -2);
        C.refused(Towns.TOWN, "none such is no two", x -> x.roof(4, 4), -2);
    }

    /** Promise 9: "A HOUSE is DOWN (by itself, too), for good". */
    private static void promise9Down() {
        WindowRoll x = houses(3);
        x.roof(0, 1);
        x.roof(1, 2);
        C.is("down", x.down(0), true);
        C.is("DOWN", x.houseOf(0, 9), 1);
        C.is("by itself", x.houseOf(0, 8), 0);
        C.is("the others stay with one another", x.houseOf(2, 8), 1);
        C.is("the others are not DOWN", x.houseOf(1, 9), 0);
        x.worth(0, 1, 1);
        x.go();
        C.is("for good", x.houseOf(0, 9), 1);
        C.is("HOUSES", x.count(1), 3);
    }

    /** Promise 9: "false: none such, or it is". */
    private static void promise9Refused() {
        C.beyond(Towns.TOWN, "HOUSE", 0, 3, (x, house) -> x.down(house) ? 1 : 0, 0);
        C.refused(Towns.TOWN, "it is", x -> x.down(3) ? 1 : 0, 0);
    }

    /** Promise 40: what 0 to 9 of a HOUSE. */
    private static void promise40Facts() {
        WindowRoll x = Towns.TOWN.make();
        int[][] due = {{0, 100, 2, 10, 2, 4, 3, 5 * 3 + 7 * 3 + 12 * 5, 0, 0}, {1, 200, 3, 20, 1, 2, 1, 12, 0, 0},
            {0, 300, 1, 30, 1, 2, 2, 36, 2, 0}, {2, 50, 1, 5, 1, 1, 1, 27, 3, 1}};
        for (int h = 0; h < 4; h++) {
            for (int what = 0; what < 10; what++) {
                C.is("HOUSE " + h + " what " + what, x.houseOf(h, what), due[h][what]);
            }
        }
    }

    /** Promise 40: "-2 for others". */
    private static void promise40Refused() {
        C.beyond(Towns.TOWN, "what", 0, 9, (x, what) -> x.houseOf(0, what), -2);
        for (int house : Checks.beyond(0, 3)) {
            for (int what = 0; what < 10; what++) {
                C.is("HOUSE " + house, Towns.TOWN.make().houseOf(house, what), -2);
            }
        }
    }

    /** Promise 41: what 0 to 7 of an OPENING. */
    private static void promise41Facts() {
        WindowRoll x = Towns.TOWN.make();
        int[][] due = {{0, 5, 1, 0, 0, 0, 0, -1}, {0, 6, 1, 0, 1, 0, 2, -1}, {0, 7, 1, 0, 0, 1, 0, -1},
            {1, 12, 2, 1, 0, 0, 0, 2}};
        for (int o = 0; o < 4; o++) {
            for (int what = 0; what < 8; what++) {
                C.is("OPENING " + o + " what " + what, x.opening(0, o, what), due[o][what]);
            }
        }
    }

    /** Promise 41: "-2 for others". */
    private static void promise41Refused() {
        C.beyond(Towns.TOWN, "what", 0, 7, (x, what) -> x.opening(0, 3, what), -2);
        for (int what = 0; what < 8; what++) {
            for (int opening : Checks.beyond(0, 3)) {
                C.is("OPENING " + opening, Towns.TOWN.make().opening(0, opening, what), -2);
            }
            for (int house : Checks.beyond(0, 3)) {
                C.is("HOUSE " + house, Towns.TOWN.make().opening(house, 0, what), -2);
            }
        }
    }
}
