/** Promise 1, and what the calls answer of an object to which nothing was done. */
public final class NewObjectTest {
    public static void main(String[] args) {
        Checks c = new Checks();
        WindowRoll x = new WindowRoll();
        c.is("NONE", WindowRoll.NONE, -1);
        for (int what = 0; what <= 9; what++) {
            c.is("count " + what, x.count(what), 0);
        }
        c.is("count -1", x.count(-1), -1);
        c.is("count 10", x.count(10), -1);
        c.is("fault", x.fault(), -1);
        c.is("planned", x.planned(0), -1);
        c.is("owner", x.owner(), -1);
        c.is("matched", x.matched(0), -1);
        c.is("answer", x.answer(0, 0), 0);
        c.is("heap", x.heap(0), 0);
        c.is("go", x.go(), 0);
        c.is("heldOf", x.heldOf(0, 0), -2);
        c.is("roll", x.roll(0, 0, 0, 0), -1);
        for (int place = 0; place <= 3; place++) {
            c.is("tear", x.tear(place), false);
        }
        constants(c);
        c.finish();
    }

    private static void constants(Checks c) {
        for (int kind = 0; kind <= 3; kind++) {
            WindowRoll x = new WindowRoll();
            x.house(0, 0, 1, 1);
            Checks.room(x, 0, kind, 0, 11);
            c.is("LIGHT 3", x.houseOf(0, 7), 33);
            x = new WindowRoll();
            x.house(0, 0, 1, 1);
            Checks.room(x, 0, kind, 0, 13);
            c.is("ENOUGH 12", x.houseOf(0, 7), 36);
        }
        WindowRoll x = new WindowRoll();
        x.house(0, 0, 1, 1);
        Checks.room(x, 0, 0, 0, 1, 1);
        x.make(0, 1, 1);
        Checks.act(x, 0, "from 1 pay 100 when count=1 or count=2");
        c.is("BRICKING 20", x.plan(0, 1), -20);
        Checks.act(x, 0, "from 1 pay 100 when count<2");
        x.light(0, 50, 12);
        c.is("OPENING 30", x.plan(0, 1), 100 - 30);
        x.held(0, 6, 0, false, false, true);
        c.is("NEAR 5", x.nearest(0, 0), 0);
        x.overrule(0);
        x.held(0, 7, 0, false, false, true);
        c.is("not NEAR", x.nearest(0, 0), -1);
        x.go();
        x.late(0, 0, 500);
        c.is("MOVES 2", x.span(0, 1, 1, 0), 498);
        c.is("MOVES 2", x.span(0, 1, 1, 1), 502);
    }
}
