import java.util.function.Consumer;

/** The edges of Term IV and of promises 18 to 20 and 38: PLANS, owners, ACTS BESIDE. */
public final class PlanEdgesTest {
    private static final Checks C = new Checks();

    public static void main(String[] args) throws Exception {
        C.runAll(PlanEdgesTest.class);
    }

    /** The worth of a PLAN, and which OPENINGS are open in its YEARS. */
    private static void planned(WindowRoll x, long worth, int... sets) {
        C.is("worth", x.plan(0, sets.length), worth);
        for (int k = 0; k < sets.length; k++) {
            C.is("YEAR " + k, x.planned(k), sets[k]);
        }
        C.is("no more", x.planned(sets.length), -1);
    }

    /** Term IV: which of its OPENINGS "that are not boarded" are open: a boarded one neither opens nor counts. */
    private static void term4Boarded() {
        WindowRoll x = Checks.oneRoom(12, 12);
        x.light(0, 50, 200);
        x.terms(0, 0, 0, 0);
        x.make(0, 0, 2);
        Checks.act(x, 0, "from 2 pay 1000");
        planned(x, 2 * 600, 2, 2);
        x.make(0, 1, 2);
        planned(x, 0, 0, 0);
    }

    /** Term IV: "all begins with those that are now". */
    private static void term4Begin() {
        WindowRoll x = Checks.oneRoom(1, 1, 1);
        x.make(0, 1, 1);
        planned(x, 6 * 3, 5, 5, 5);
    }

    /** Term IV: "BRICKING for each that was open ahead of it and is not, OPENING for each the other way about". */
    private static void term4Changes() {
        WindowRoll x = Checks.oneRoom(10, 10, 10);
        x.terms(7, 9, 0, 0);
        x.light(0, 1, 200);
        x.make(0, 2, 1);
        Checks.act(x, 0, "from 1 pay 100 when year=0 or year=2");
        planned(x, -14, 0);
        planned(x, -14 + 30 - 27, 0, 7);
        planned(x, -14, 0, 0, 0);
        planned(x, -14 + 30 - 27, 0, 0, 0, 7);
        x.light(0, 2, 200);
        planned(x, -14 + 60 - 27 - 21, 0, 7, 0);
    }

    /** Term IV: a change that brings just what it costs is not done, as fewer changes come first. */
    private static void term4JustWorthIt() {
        for (int panes = 9; panes <= 11; panes++) {
            WindowRoll x = Checks.oneRoom(panes);
            x.terms(30, 30, 0, 0);
            x.make(0, 0, 1);
            planned(x, panes > 10 ? 3 * panes - 30 : 0, panes > 10 ? 1 : 0);
            x.make(0, 0, 0);
            Checks.act(x, 0, "from 1 pay " + (30 + 3 * panes + panes - 10));
            planned(x, panes > 10 ? -30 : -30 - (panes - 10), panes > 10 ? 0 : 1);
        }
    }

    /** Term IV: "TAX of its COUNT by that YEAR's ACT", with that YEAR as year. */
    private static void term4YearsAct() {
        WindowRoll x = Checks.oneRoom(1);
        x.terms(0, 0, 0, 0);
        Checks.act(x, 3, "from 1 pay 1000");
        Checks.act(x, 4, "from 1 pay 1000 when year=5");
        x.go();
        planned(x, 3 + 3 + 3, 1, 1, 0, 1, 0);
    }

    /** Term IV: TAX is that "of a HOUSE by itself", though others are under its roof. */
    private static void term4ByItself() {
        WindowRoll x = Checks.oneRoom(1);
        x.house(0, 0, 1, 1);
        Checks.room(x, 1, 0, 0, 1);
        x.roof(0, 1);
        Checks.act(x, 0, "from 2 pay 1000");
        planned(x, 3, 1);
    }

    /** Term IV: the HOUSE "as it is now": EXCUSED OPENINGS have no WEIGHT. */
    private static void term4Excused() {
        WindowRoll x = Checks.oneRoom(1, 1);
        x.held(0, 1, 0, false, false, false);
        x.appeal(0, 1);
        Checks.act(x, 0, "from 1 pay 1000");
        planned(x, 3 - 20, 2);
    }

    /** Term IV: "light less costs, in all YEARS": what costs first may be worth it in the end. */
    private static void term4AllYears() {
        WindowRoll x = Checks.oneRoom(5);
        x.make(0, 0, 1);
        planned(x, 0, 0);
        planned(x, 0, 0, 0);
        planned(x, 15, 1, 1, 1);
    }

    /** Term IV: "Of several: in the first YEAR the fewest changes". */
    private static void term4FewestChanges() {
        WindowRoll x = Checks.oneRoom(1, 1, 1);
        x.light(0, 0, 0);
        x.terms(0, 0, 0, 0);
        planned(x, 0, 7, 7);
        x.make(0, 0, 1);
        planned(x, 0, 6, 6);
        Checks.act(x, 0, "from 1 pay 1;counts panes-1");
        planned(x, 0, 6, 6);
        Checks.act(x, 0, "from 2 pay 1");
        planned(x, 0, 2, 2);
    }

    /** Term IV: "then the least set as a number". */
    private static void term4LeastSet() {
        WindowRoll x = Checks.oneRoom(1, 1, 1, 1);
        x.light(0, 0, 0);
        x.terms(0, 0, 0, 0);
        Checks.act(x, 0, "from 3 pay 1");
        planned(x, 0, 3, 3);
        x.make(0, 0, 1);
        planned(x, 0, 6, 6);
        Checks.act(x, 0, "from 1 pay 1 when count=1 or count=3;from 4 pay 0");
        planned(x, 0, 6, 6);
    }

    /** Term IV: the fewest changes come ahead of the least set. */
    private static void term4ChangesFirst() {
        WindowRoll x = Checks.oneRoom(1, 1, 1);
        x.light(0, 0, 0);
        x.terms(0, 0, 0, 0);
        x.make(0, 0, 1);
        x.make(0, 1, 1);
        planned(x, 0, 4);
        Checks.act(x, 0, "from 1 pay 1 when count=1");
        planned(x, 0, 0);
        Checks.act(x, 0, "from 0 pay 1 when count=1;from 3 pay 1");
        planned(x, 0, 0, 0);
    }

    /** Term IV: "then likewise in the next one, ..": a change comes as late as it can. */
    private static void term4NextYears() {
        WindowRoll x = Checks.oneRoom(1, 1);
        x.light(0, 0, 0);
        Checks.act(x, 2, "from 2 pay 1000");
        planned(x, -20, 3, 3, 1);
        planned(x, -20, 3, 3, 1, 1);
    }

    /** Promise 18: "for so many YEARS (1 .. 10) from this one on". */
    private static void promise18Years() {
        for (int years : new int[] {1, 2, 9, 10}) {
            WindowRoll x = Checks.oneRoom(1);
            C.is(years + " YEARS", x.plan(0, years), 3 * years);
            C.is("the last one", x.planned(years - 1), 1);
            C.is("no more", x.planned(years), -1);
        }
    }

    /** Promise 18: "-1000000: there is no such HOUSE, it is DOWN, another number". */
    private static void promise18Refused() {
        C.beyond(Towns.TOWN, "HOUSE", 0, 3, (x, house) -> x.plan(house, 3), -1000000);
        for (int years : Checks.beyond(1, 10)) {
            C.refused(Towns.TOWN, years + " YEARS", x -> x.plan(0, years), -1000000);
        }
        C.refused(Towns.TOWN, "DOWN", x -> x.plan(3, 3), -1000000);
    }

    /** Promise 18: a HOUSE without OPENINGS has a PLAN, too. */
    private static void promise18Empty() {
        WindowRoll x = new WindowRoll();
        x.house(0, 0, 1, 1);
        planned(x, 0, 0, 0);
        C.is("nothing changed", x.owner(), 0);
    }

    /** Promise 18: ten OPENINGS for ten YEARS, in which all is dear, then nothing, then dear again. */
    private static void promise18Greatest() {
        WindowRoll x = Checks.oneRoom(30, 30, 30, 30, 30, 30, 30, 30, 30, 30);
        x.light(0, 50, 200);
        x.terms(1000, 1000, 0, 0);
        Checks.act(x, 0, "counts 9;from 1 pay 9999*9999");
        C.is("all bricked at once", x.plan(0, 10), -10000);
        C.is("none is open", x.planned(0), 0);
        Checks.act(x, 3, "");
        C.is("seven are opened again", x.plan(0, 10), -10000 - 7000 + 7 * 10000);
        C.is("in YEAR 2", x.planned(2), 0);
        C.is("in YEAR 3", x.planned(3), 127);
        C.is("in YEAR 9", x.planned(9), 127);
    }

    /** Promise 18: from YEAR 99 on there is the latest ACT for what comes behind it. */
    private static void promise18LastYears() {
        WindowRoll x = Towns.CENTURY.make();
        C.is("ten YEARS", x.plan(0, 10), 10 * (15 - 7));
        C.is("the last one", x.planned(9), 1);
    }

    /** Promise 19: "NONE if there is none such": ahead of any, and beyond its YEARS. */
    private static void promise19None() {
        WindowRoll x = Checks.oneRoom(1);
        C.is("ahead of any", x.planned(0), -1);
        x.plan(0, 4);
        C.is("its last YEAR", x.planned(3), 1);
        for (int k : Checks.beyond(0, 3)) {
            C.is("YEAR " + k, x.planned(k), -1);
        }
        x.plan(0, 1);
        C.is("those of a longer one are gone", x.planned(1), -1);
        C.is("its only YEAR", x.planned(0), 1);
    }

    /** Promise 19: "Of the latest plan() that told a worth": one that was refused leaves it. */
    private static void promise19Latest() {
        WindowRoll x = Checks.oneRoom(1);
        x.plan(0, 2);
        x.plan(0, 11);
        x.plan(1, 1);
        C.is("it stays", x.planned(1), 1);
        x.house(0, 0, 1, 1);
        x.plan(1, 1);
        C.is("another HOUSE's", x.planned(0), 0);
        x.down(1);
        x.plan(1, 1);
        C.is("it stays, though its HOUSE is DOWN", x.planned(0), 0);
    }

    /** Promise 19: a set has the OPENINGS' numbers as its bits, to the tenth. */
    private static void promise19Set() {
        WindowRoll x = Checks.oneRoom(1, 1, 1, 1, 1, 1, 1, 1, 1, 1);
        x.plan(0, 1);
        C.is("all ten", x.planned(0), 1023);
        for (int o = 0; o < 9; o++) {
            x.make(0, o, 2);
        }
        x.plan(0, 1);
        C.is("the tenth", x.planned(0), 512);
    }

    /** Promise 20: "The latest PLAN's first YEAR is done by its owner: how many OPENINGS changed". */
    private static void promise20Done() {
        WindowRoll x = Checks.oneRoom(1, 12, 1, 12);
        x.make(0, 1, 1);
        x.make(0, 3, 2);
        x.light(0, 10, 12);
        Checks.act(x, 0, "counts 9 when panes=1;counts 0;from 1 pay 100");
        C.is("plan", x.plan(0, 3), 3 * 120 - 30 - 40);
        C.is("two bricked, one opened", x.owner(), 3);
        int[] states = {1, 0, 1, 2};
        for (int o = 0; o < 4; o++) {
            C.is("OPENING " + o, x.opening(0, o, 6), states[o]);
        }
        C.is("planned() stays", x.planned(2), 2);
        C.is("no YEAR went by", x.count(0), 0);
    }

    /** Promise 20: none changed is done, too. */
    private static void promise20NoneChanged() {
        WindowRoll x = Checks.oneRoom(1);
        x.plan(0, 1);
        C.is("none", x.owner(), 0);
        C.is("it was done", x.owner(), -1);
    }

    /** Promise 20: "NONE, and nothing happens: there is none". */
    private static void promise20None() {
        WindowRoll x = Checks.oneRoom(1);
        C.is("ahead of any", x.owner(), -1);
        x.plan(1, 1);
        x.plan(0, 0);
        C.is("those that were refused are none", x.owner(), -1);
        C.is("nothing happened", x.opening(0, 0, 6), 0);
    }

    /** A HOUSE whose PLAN is to brick its OPENING; HOUSE 1 and CASE 0 for other calls. */
    private static WindowRoll dear() {
        WindowRoll x = Checks.oneRoom(1);
        x.house(0, 0, 1, 1);
        Checks.room(x, 1, 0, 0, 1);
        x.held(3, 30, 5, true, true, false);
        Checks.act(x, 0, "from 1 pay 1000");
        Checks.row(x, 0, 5);
        Checks.tape(x, "");
        C.is("plan", x.plan(0, 2), -20);
        return x;
    }

    private static void done(String call, boolean stale, Consumer<WindowRoll> done) {
        WindowRoll x = dear();
        done.accept(x);
        C.is("owner() behind " + call, x.owner(), stale ? -1 : 1);
        C.is("what happened behind " + call, x.opening(0, 0, 6), stale ? 0 : 1);
        C.is("planned() behind " + call, x.planned(1), 0);
    }

    /** Promise 20: NONE if one of the fourteen calls "was done since", though it changed nothing of the HOUSE. */
    private static void promise20Since() {
        done("light", true, x -> x.light(3, 3, 12));
        done("terms", true, x -> x.terms(20, 30, 5, 2));
        done("house", true, x -> x.house(0, 0, 1, 1));
        done("room", true, x -> x.room(1, 0, 0, 0));
        done("make", true, x -> x.make(1, 0, 0));
        done("worth", true, x -> x.worth(1, 0, 1));
        done("roof joined", true, x -> x.roof(0, 1));
        done("roof parted", true, x -> x.roof(x.roof(0, 1) - 1, 1));
        done("down", true, x -> x.down(1));
        done("act", true, x -> x.act(99));
        done("held", true, x -> x.held(0, 1, 0, false, false, true));
        done("appeal", true, x -> x.appeal(1, 0));
        done("overrule", true, x -> x.overrule(0));
        done("go", true, x -> x.go());
    }

    /** Promise 20: owner() itself was done since; a new PLAN can be done again. */
    private static void promise20SinceOwner() {
        WindowRoll x = dear();
        C.is("once", x.owner(), 1);
        C.is("twice", x.owner(), -1);
        x.plan(1, 1);
        C.is("another HOUSE's", x.owner(), 1);
        C.is("it was done", x.opening(1, 0, 6), 1);
    }

    /** Promise 20: other calls leave the PLAN to be done. */
    private static void promise20Others() {
        done("feed, end", false, x -> x.end(x.feed(0, 0, 0, 0, 0) - 20));
        done("fault", false, x -> x.fault());
        done("weight, counted, tax, due", false, x -> x.tax(0, 0, x.counted(0, 0, x.weight(0, 0, 0))));
        done("due", false, x -> x.due(0));
        done("planned", false, x -> x.planned(0));
        done("nearest, heldOf", false, x -> x.heldOf(x.nearest(0, 0), 0));
        done("walk, look", false, x -> x.look(x.walk(0, 0), 0));
        done("late", false, x -> x.late(0, 0, 5));
        done("route, roll, span, habit", false, x -> x.habit(x.route(0, 9), x.roll(0, 0, 0, 0), x.span(0, 0, 0, 0)));
        done("ask, answer", false, x -> x.answer(Checks.ask(x, 0, "number"), 0));
        done("match, matched", false, x -> x.matched(x.match(0, 0, 1)));
        done("beside", false, x -> Checks.beside(x, 5, 1, "from 1 pay 1"));
        done("heap, houseOf, opening, paid, count", false, x -> x.houseOf(x.heap(1), x.opening(0, 0, 0)));
        done("row, write, paste, tear", false, x -> x.tear(x.row(1, 1, 1) + x.write(1, 0, 1) + x.paste(1, 0, 1, 0, 1)));
        done("a plan that is refused", false, x -> x.plan(0, 11));
    }

    /** Promise 20: one that was refused was not done. */
    private static void promise20RefusedOnes() {
        done("light", false, x -> x.light(4, 0, 0));
        done("terms", false, x -> x.terms(-1, 0, 0, 0));
        done("house", false, x -> x.house(4, 0, 1, 1));
        done("room", false, x -> x.room(0, 0, 0, 2));
        done("make", false, x -> x.make(0, 1, 0));
        done("worth", false, x -> x.worth(2, 0, 1));
        done("roof", false, x -> x.roof(0, 0));
        done("down", false, x -> x.down(2));
        done("act", false, x -> x.act(100));
        done("act with a FAULT", false, x -> Checks.act(x, 0, "spar"));
        done("held", false, x -> x.held(0, 0, 0, false, false, false));
        done("appeal", false, x -> x.appeal(1, 1));
        done("overrule", false, x -> x.overrule(1));
    }

    /** Promise 38: "for so many YEARS (1 .. 10)". */
    private static void promise38Years() {
        for (int years : new int[] {1, 2, 9, 10}) {
            WindowRoll x = Checks.oneRoom(1);
            C.is(years + " YEARS", Checks.beside(x, years, 1, "from 1 pay 1"), years);
        }
        for (int years : Checks.beyond(1, 10)) {
            C.refused(Towns.TOWN, years + " YEARS", x -> x.beside(years, 0), -2);
        }
    }

    /** Promise 38: "-2, and the TAPE stays: something is not as told": what is not 0 .. 4. */
    private static void promise38What() {
        C.beyond(Towns.TOWN, "what", 0, 4, (x, what) -> x.beside(1, what), -2);
    }

    /** Promise 38: "-4: it has a FAULT": the TAPE is empty then, as it always is when it was read. */
    private static void promise38Faulty() {
        for (int what = 0; what < 5; what++) {
            int of = what;
            C.faulty(Towns.TOWN, "what " + what, x -> x.beside(1, of), -4);
        }
        WindowRoll x = Checks.oneRoom(1);
        Checks.beside(x, 1, 0, "from 1 pay 1");
        C.is("read", x.count(6), 0);
    }

    /** Promise 38: nothing that is told changes but the TAPE and fault(): no ACT comes, no PLAN is another one. */
    private static void promise38NothingChanges() {
        for (int what = 0; what < 5; what++) {
            int of = what;
            C.faulty(Towns.TOWN, "what " + what, x -> {
                Checks.tape(x, "from 1 pay 50");
                return x.beside(3, of) < 0 ? -1 : 0;
            }, 0);
        }
    }

    /** Promise 38: the ACT BESIDE is the one of all its YEARS, whatever other ACTS there are. */
    private static void promise38Beside() {
        WindowRoll x = Checks.oneRoom(1);
        Checks.act(x, 0, "from 1 pay 1000");
        Checks.act(x, 2, "from 1 pay 1000");
        C.is("TAX in all YEARS", Checks.beside(x, 4, 1, "from 1 pay 2"), 8);
        C.is("no RULES at all", Checks.beside(x, 4, 1, ""), 0);
        C.is("all is open", Checks.beside(x, 4, 2, ""), 1);
    }

    /** Promise 38: what 0: "TAX of all in the first YEAR", when the owner has done its changes. */
    private static void promise38First() {
        WindowRoll x = Checks.oneRoom(12, 1);
        C.is("one is bricked", Checks.beside(x, 2, 0, "from 1 pay 15"), 15);
        C.is("neither for one YEAR", Checks.beside(x, 1, 0, "from 1 pay 15"), 30);
        x.go();
        C.is("by year", Checks.beside(x, 2, 0, "from 1 pay year"), 2);
    }

    /** Promise 38: what 1: TAX "in all YEARS", each by its year. */
    private static void promise38AllYears() {
        WindowRoll x = Checks.oneRoom(12);
        Checks.go(x, 5);
        C.is("from YEAR 5 on", Checks.beside(x, 3, 1, "from 1 pay year"), 5 + 6 + 7);
        C.is("WEIGHTS from YEAR 5 on", Checks.beside(x, 3, 1, "counts year;from 1 pay 1"), 5 + 6 + 7);
        C.is("bricked in YEAR 7", Checks.beside(x, 3, 1, "from 1 pay 1;from 1 pay 100 when year=7"), 2);
        C.is("YEARS behind 99", Checks.beside(Towns.CENTURY.make(), 3, 4, "from 1 pay year"), 99 + 100 + 101);
    }

    /** Promise 38: what 2 and 3: OPENINGS open and light "in the last one". */
    private static void promise38Last() {
        WindowRoll x = Checks.oneRoom(10, 1, 12);
        x.light(0, 3, 200);
        x.terms(0, 0, 0, 0);
        x.make(0, 2, 2);
        String text = "from 1 pay 4 when year=1;from 1 pay 40 when year=2";
        long[] open = {2, 1, 0, 2};
        long[] light = {33, 30, 0, 33};
        for (int years = 1; years <= 4; years++) {
            C.is("open", Checks.beside(x, years, 2, text), open[years - 1]);
            C.is("light", Checks.beside(x, years, 3, text), light[years - 1]);
        }
    }

    /** Promise 38: what 4: "TAX in all YEARS if nobody did anything". */
    private static void promise38Unmoved() {
        WindowRoll x = Checks.oneRoom(1, 1, 1);
        x.make(0, 1, 1);
        x.make(0, 2, 2);
        C.is("one is open", Checks.beside(x, 10, 4, "from 1 pay 1000*1000*1000"), 10000000000L);
        C.is("one is open", Checks.beside(x, 1, 4, "from 1 pay 7"), 7);
        C.is("by year", Checks.beside(x, 3, 4, "from 1 pay year*year"), 5);
        Checks.go(x, 5);
        C.is("from YEAR 5 on", Checks.beside(x, 3, 4, "from 1 pay year*year"), 25 + 36 + 49);
        C.is("WEIGHTS from YEAR 5 on", Checks.beside(x, 3, 4, "counts year;from 1 pay 1"), 5 + 6 + 7);
    }

    /** Promise 38: "each HOUSE that is not DOWN by itself". */
    private static void promise38Houses() {
        WindowRoll x = new WindowRoll();
        for (int what = 0; what < 5; what++) {
            C.is("no HOUSES", Checks.beside(x, 10, what, "from 1 pay 1"), 0);
        }
        for (int h = 0; h < 16; h++) {
            x.house(0, h, 1, 1);
            Checks.room(x, h, 0, 0, 12);
            x.roof(0, h);
        }
        C.is("each by itself", Checks.beside(x, 2, 1, "from 1 pay worth;from 2 pay 1000"), 2 * 120);
        x.down(15);
        C.is("not DOWN", Checks.beside(x, 2, 1, "from 1 pay worth"), 2 * 105);
        C.is("not DOWN", Checks.beside(x, 2, 2, ""), 15);
        C.is("not DOWN", Checks.beside(x, 2, 3, ""), 15 * 36);
        C.is("not DOWN", Checks.beside(x, 2, 4, "from 1 pay 1"), 30);
    }
}
