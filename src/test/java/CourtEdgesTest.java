/** The edges of Term V and of promises 21 to 25: CASES, appeals, and what falls. */
public final class CourtEdgesTest {
    private static final Checks C = new Checks();

    public static void main(String[] args) throws Exception {
        C.runAll(CourtEdgesTest.class);
    }

    /** How far an OPENING (KIND 1, floor 2, 10 panes) is from a CASE: the least NEAR by which it is found. */
    private static int away(int kind, int panes, int floor, boolean back, boolean lattice) {
        WindowRoll x = new WindowRoll();
        x.house(0, 0, 1, 1);
        Checks.room(x, 0, 1, 2, 10);
        x.held(kind, panes, floor, back, lattice, true);
        for (int near = 0; near <= 60; near++) {
            x.terms(0, 0, near, 0);
            if (x.nearest(0, 0) == 0) {
                return near;
            }
        }
        return -1;
    }

    /** Term V: how near: each of the five differences by itself, and all together. */
    private static void term5HowNear() {
        C.is("alike", away(1, 10, 2, false, false), 0);
        for (int kind : new int[] {0, 2, 3}) {
            C.is("4 if KINDS are unlike", away(kind, 10, 2, false, false), 4);
        }
        C.is("fewer panes", away(1, 1, 2, false, false), 9);
        C.is("more panes", away(1, 30, 2, false, false), 20);
        C.is("twice the floors below", away(1, 10, 0, false, false), 4);
        C.is("twice the floors above", away(1, 10, 5, false, false), 6);
        C.is("one alone at the back", away(1, 10, 2, true, false), 3);
        C.is("one alone with a lattice", away(1, 10, 2, false, true), 3);
        C.is("all of that", away(0, 30, 5, true, true), 4 + 20 + 6 + 3 + 3);
    }

    /** Term V: 3 "if one alone" is at the back, or has a lattice: not if both do. */
    private static void term5Both() {
        WindowRoll x = Checks.oneRoom(-110);
        x.terms(0, 0, 0, 0);
        x.held(0, 10, 0, true, true, true);
        C.is("both", x.nearest(0, 0), 0);
        x.overrule(0);
        x.held(0, 10, 0, false, false, true);
        x.terms(0, 0, 5, 0);
        C.is("neither of the CASE", x.nearest(0, 0), -1);
        x.terms(0, 0, 6, 0);
        C.is("neither of the CASE", x.nearest(0, 0), 1);
    }

    /** Term V: the farthest that an OPENING can be is 4 + 29 + 10 + 3 + 3. */
    private static void term5Farthest() {
        WindowRoll x = Checks.oneRoom(1);
        x.held(3, 30, 5, true, true, true);
        x.terms(0, 0, 48, 0);
        C.is("NEAR 48", x.nearest(0, 0), -1);
        x.terms(0, 0, 49, 0);
        C.is("NEAR 49", x.nearest(0, 0), 0);
    }

    /** Term V: "at most NEAR away". */
    private static void term5AtMostNear() {
        WindowRoll x = Checks.oneRoom(10);
        x.held(0, 13, 0, false, false, true);
        int[] due = {-1, -1, -1, 0, 0};
        for (int near = 0; near < 5; near++) {
            x.terms(0, 0, near, 0);
            C.is("NEAR " + near, x.nearest(0, 0), due[near]);
        }
    }

    /** Term V: "the one that is least away, of several the latest". */
    private static void term5Latest() {
        WindowRoll x = Checks.oneRoom(10);
        int[] panes = {12, 11, 9, 11, 12, 8};
        int[] nearest = {0, 1, 2, 3, 3, 3};
        for (int c = 0; c < panes.length; c++) {
            x.held(0, panes[c], 0, false, false, true);
            C.is("behind CASE " + c, x.nearest(0, 0), nearest[c]);
        }
    }

    /** Term V: "Nearest of those that stand". */
    private static void term5Stand() {
        WindowRoll x = Checks.oneRoom(10);
        for (int c = 0; c < 3; c++) {
            x.held(0, 10, 0, false, false, true);
        }
        int[] due = {1, 0, -1};
        for (int k = 0; k < 3; k++) {
            x.overrule(2 - k);
            C.is("as " + (2 - k) + " fell", x.nearest(0, 0), due[k]);
        }
    }

    /** Term V: "the nearest CASE tells", whatever WEIGHT would. */
    private static void term5Tells() {
        WindowRoll x = Checks.oneRoom(10);
        x.held(0, 10, 0, false, false, false);
        C.is("none, though WEIGHT is 1", x.appeal(0, 0), 1);
        WindowRoll y = Checks.oneRoom(10);
        Checks.act(y, 0, "counts 0");
        y.held(0, 10, 0, false, false, true);
        C.is("a window, though WEIGHT is 0", y.appeal(0, 0), 0);
    }

    /** Term V: "without one it is a window if WEIGHT by this YEAR's ACT is above 0". */
    private static void term5Weight() {
        String[] texts = {"", "counts 0", "counts 0-1", "counts 1", "counts 9", "counts 0;counts 1"};
        int[] due = {0, 1, 1, 0, 0, 1};
        for (int i = 0; i < texts.length; i++) {
            WindowRoll x = Checks.oneRoom(10);
            Checks.act(x, 0, texts[i]);
            x.held(0, 30, 0, false, false, i % 2 == 0);
            C.is(texts[i], x.appeal(0, 0), due[i]);
            C.is("leans on none", x.heldOf(1, 6), -1);
        }
        WindowRoll y = Checks.oneRoom(10);
        Checks.act(y, 1, "counts 0 when year=1");
        C.is("YEAR 0", y.appeal(0, 0), 0);
        y.overrule(0);
        y.go();
        C.is("YEAR 1", y.appeal(0, 0), 1);
    }

    /** Term V: WEIGHT of one that is bricked or boarded is that of an open one. */
    private static void term5Bricked() {
        for (int state = 0; state < 3; state++) {
            WindowRoll x = Checks.oneRoom(10);
            x.make(0, 0, state);
            C.is("state " + state, x.appeal(0, 0), 0);
        }
    }

    /** Term V: "What is told is a new CASE, that leans on the nearest one (if there was one)". */
    private static void term5NewCase() {
        WindowRoll x = new WindowRoll();
        x.house(0, 0, 1, 1);
        Checks.room(x, 0, 3, 5, -130, -130);
        C.is("appeal", x.appeal(0, 0), 0);
        int[] first = {3, 30, 5, 1, 1, 1, -1, 1};
        int[] second = {3, 30, 5, 1, 1, 1, 0, 1};
        C.is("appeal", x.appeal(0, 1), 0);
        for (int what = 0; what < 8; what++) {
            C.is("CASE 0 what " + what, x.heldOf(0, what), first[what]);
            C.is("CASE 1 what " + what, x.heldOf(1, what), second[what]);
        }
        C.is("a window again", x.appeal(0, 1), 0);
        C.is("leans on the latest", x.heldOf(2, 6), 1);
    }

    /** Term V: "If it is none, the OPENING is EXCUSED by the new CASE"; a window is not. */
    private static void term5Excused() {
        WindowRoll x = Checks.oneRoom(10, 20);
        x.held(0, 10, 0, false, false, false);
        x.appeal(0, 0);
        x.appeal(0, 1);
        C.is("by the new one", x.opening(0, 0, 7), 1);
        C.is("a window", x.opening(0, 1, 7), -1);
        C.is("EXCUSED", x.count(8), 1);
    }

    /** Term V: "Those that lean on one that falls fall, too", to the end of the chain. */
    private static void term5Chain() {
        WindowRoll x = Checks.oneRoom(1, 2, 3, 4, 5, 6, 7, 8, 9, 10);
        x.terms(0, 0, 1, 0);
        x.held(0, 1, 0, false, false, false);
        x.held(0, 30, 0, false, false, false);
        for (int o = 0; o < 10; o++) {
            C.is("appeal " + o, x.appeal(0, o), 1);
            C.is("leans", x.heldOf(o + 2, 6), o == 0 ? 0 : o + 1);
        }
        C.is("from the middle on", x.overrule(8), 4);
        C.is("EXCUSED", x.count(8), 6);
        C.is("all the rest", x.overrule(0), 7);
        C.is("EXCUSED", x.count(8), 0);
        C.is("the other one stands", x.count(4), 1);
    }

    /** Term V: "whoever was EXCUSED by one that falls is so no more", in a HOUSE that is DOWN, too. */
    private static void term5NoMore() {
        WindowRoll x = Checks.oneRoom(10);
        x.house(0, 0, 1, 1);
        Checks.room(x, 1, 0, 0, 10);
        x.held(0, 10, 0, false, false, false);
        x.appeal(0, 0);
        x.appeal(1, 0);
        x.down(1);
        C.is("EXCUSED", x.count(8), 2);
        C.is("fell", x.overrule(2), 1);
        C.is("no more", x.opening(1, 0, 7), -1);
        C.is("the other one stays", x.opening(0, 0, 7), 1);
        C.is("fell", x.overrule(0), 2);
        C.is("no more", x.opening(0, 0, 7), -1);
        C.is("it can appeal again", x.appeal(0, 0), 0);
    }

    /** Promise 21: "KIND" is 0 .. 3. */
    private static void promise21Kind() {
        for (int kind = 0; kind < 4; kind++) {
            WindowRoll x = new WindowRoll();
            C.is("KIND " + kind, x.held(kind, 1, 0, false, false, true), 0);
            C.is("KIND " + kind, x.heldOf(0, 0), kind);
        }
        C.beyond(Towns.TOWN, "KIND", 0, 3, (x, kind) -> x.held(kind, 1, 0, false, false, true), -2);
    }

    /** Promise 21: "panes (1 .. 30)". */
    private static void promise21Panes() {
        for (int panes : new int[] {1, 2, 29, 30}) {
            WindowRoll x = new WindowRoll();
            C.is("panes " + panes, x.held(0, panes, 0, false, false, true), 0);
            C.is("panes " + panes, x.heldOf(0, 1), panes);
        }
        C.beyond(Towns.TOWN, "panes", 1, 30, (x, panes) -> x.held(0, panes, 0, false, false, true), -2);
    }

    /** Promise 21: "floor" is 0 .. 5. */
    private static void promise21Floor() {
        for (int floor = 0; floor < 6; floor++) {
            WindowRoll x = new WindowRoll();
            C.is("floor " + floor, x.held(0, 1, floor, false, false, true), 0);
            C.is("floor " + floor, x.heldOf(0, 2), floor);
        }
        C.beyond(Towns.TOWN, "floor", 0, 5, (x, floor) -> x.held(0, 1, floor, false, false, true), -2);
    }

    /** Promise 21: "it is a window, or none": nobody is EXCUSED by that alone. */
    private static void promise21NobodyExcused() {
        WindowRoll x = Checks.oneRoom(1);
        x.held(0, 1, 0, false, false, false);
        C.is("not EXCUSED", x.opening(0, 0, 7), -1);
        C.is("EXCUSED", x.count(8), 0);
    }

    /** Promise 21: "its number"; "-3: there are 60", -2 ahead of it; one that fell is there, too. */
    private static void promise21Full() {
        WindowRoll x = new WindowRoll();
        for (int c = 0; c < 60; c++) {
            C.is("its number", x.held(0, 1, 0, false, false, true), c);
            C.is("CASES", x.count(3), c + 1);
        }
        C.refused(Towns.FULL, "a 61st", y -> y.held(0, 1, 0, false, false, true), -3);
        C.refused(Towns.FULL, "a 61st that is not as told", y -> y.held(4, 1, 0, false, false, true), -2);
        x.overrule(59);
        C.is("one fell", x.held(0, 1, 0, false, false, true), -3);
        C.is("CASES", x.count(3), 60);
        C.is("those that stand", x.count(4), 59);
    }

    /** Promise 22: "NONE: none is NEAR". */
    private static void promise22None() {
        WindowRoll x = Checks.oneRoom(1);
        C.is("there is none", x.nearest(0, 0), -1);
        x.held(0, 7, 0, false, false, true);
        C.is("none is NEAR", x.nearest(0, 0), -1);
        x.held(0, 6, 0, false, false, true);
        C.is("one is", x.nearest(0, 0), 1);
        x.overrule(1);
        C.is("it stands no more", x.nearest(0, 0), -1);
        C.is("none of 60", Towns.FULL.make().nearest(1, 0), -1);
        for (int c = 2; c < 60; c++) {
            x.held(0, 1, 0, false, false, true);
        }
        C.is("the 60th", x.nearest(0, 0), 59);
    }

    /** Promise 22: "-2: there is no such OPENING"; one of a HOUSE that is DOWN is there. */
    private static void promise22Refused() {
        C.beyond(Towns.TOWN, "HOUSE", 0, 3, (x, house) -> x.nearest(house, 0), -2);
        C.beyond(Towns.TOWN, "OPENING", 0, 3, (x, opening) -> x.nearest(0, opening), -2);
        C.refused(Towns.FULL, "a HOUSE without OPENINGS", x -> x.nearest(0, 0), -2);
        C.is("DOWN", Towns.TOWN.make().nearest(3, 0), 3);
    }

    /** Promise 23: "-2: there is no such OPENING, the HOUSE is DOWN". */
    private static void promise23Refused() {
        C.beyond(Towns.TOWN, "HOUSE", 0, 3, (x, house) -> x.appeal(house, 0), -2);
        C.beyond(Towns.TOWN, "OPENING", 0, 3, (x, opening) -> x.appeal(0, opening), -2);
        C.refused(Towns.TOWN, "DOWN", x -> x.appeal(3, 0), -2);
        C.refused(Towns.FULL, "none such, and 60 CASES", x -> x.appeal(0, 0), -2);
    }

    /** Promise 23: "-7: it is EXCUSED", ahead of -3. */
    private static void promise23Excused() {
        C.refused(Towns.TOWN, "EXCUSED", x -> x.appeal(0, 3), -7);
        WindowRoll x = Checks.oneRoom(1);
        x.held(0, 1, 0, false, false, false);
        x.appeal(0, 0);
        for (int c = 2; c < 60; c++) {
            x.held(0, 1, 0, false, false, false);
        }
        C.is("EXCUSED, and 60 CASES", x.appeal(0, 0), -7);
        x.down(0);
        C.is("EXCUSED, and DOWN", x.appeal(0, 0), -2);
    }

    /** Promise 23: "-3: there are 60 CASES"; the 60th can still come. */
    private static void promise23Full() {
        C.refused(Towns.FULL, "a 61st", x -> x.appeal(1, 0), -3);
        WindowRoll x = Checks.oneRoom(1);
        for (int c = 0; c < 59; c++) {
            x.held(0, 1, 0, false, false, c % 2 == 0);
        }
        C.is("the 60th", x.appeal(0, 0), 0);
        C.is("leans on the 59th", x.heldOf(59, 6), 58);
        C.is("the 61st", x.appeal(0, 0), -3);
        C.is("not EXCUSED", x.opening(0, 0, 7), -1);
    }

    /** Promise 24: "how many fell": one alone, and 60 at once. */
    private static void promise24HowMany() {
        WindowRoll x = Checks.oneRoom(1);
        for (int c = 0; c < 60; c++) {
            C.is("appeal", x.appeal(0, 0), 0);
        }
        C.is("the last one", x.overrule(59), 1);
        C.is("all that are left", x.overrule(0), 59);
        C.is("none stands", x.count(4), 0);
        C.is("they are there", x.count(3), 60);
    }

    /** Promise 24: "-2: there is none such, or it does not stand". */
    private static void promise24Refused() {
        C.beyond(Towns.TOWN, "CASE", 0, 4, (x, held) -> x.overrule(held), -2);
        C.refused(Towns.TOWN, "one that fell", x -> x.overrule(4), -2);
        C.beyond(Towns.FULL, "CASE", 0, 59, (x, held) -> x.overrule(held), -2);
        WindowRoll x = Checks.oneRoom(1);
        x.appeal(0, 0);
        x.appeal(0, 0);
        x.overrule(0);
        C.is("one that fell with another one", x.overrule(1), -2);
    }

    /** Promise 25: what 0 to 7 of a CASE; 7 is 0 when it fell, and the rest stays. */
    private static void promise25Facts() {
        int[][] due = {{2, 7, 4, 1, 0, 1, -1, 1}, {1, 30, 5, 0, 1, 0, -1, 1}};
        WindowRoll x = new WindowRoll();
        x.held(2, 7, 4, true, false, true);
        x.held(1, 30, 5, false, true, false);
        for (int what = 0; what < 8; what++) {
            C.is("CASE 0 what " + what, x.heldOf(0, what), due[0][what]);
            C.is("CASE 1 what " + what, x.heldOf(1, what), due[1][what]);
        }
        x.overrule(1);
        for (int what = 0; what < 8; what++) {
            C.is("CASE 0 stays " + what, x.heldOf(0, what), due[0][what]);
            C.is("CASE 1 fell " + what, x.heldOf(1, what), what == 7 ? 0 : due[1][what]);
        }
    }

    /** Promise 25: "-2 for others". */
    private static void promise25Refused() {
        C.beyond(Towns.TOWN, "what", 0, 7, (x, what) -> x.heldOf(0, what), -2);
        for (int what = 0; what < 8; what++) {
            for (int held : Checks.beyond(0, 4)) {
                C.is("CASE " + held, Towns.TOWN.make().heldOf(held, what), -2);
            }
            for (int held : Checks.beyond(0, 59)) {
                C.is("CASE " + held, Towns.FULL.make().heldOf(held, what), -2);
            }
        }
    }
}
