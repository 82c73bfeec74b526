/** Objects to which so much was done that each call has something to answer; made by fewer than 300 calls. */
enum Towns {
    TOWN, FULL, CENTURY;

    WindowRoll make() {
        switch (this) {
            case TOWN: return town();
            case FULL: return full();
            default: return century();
        }
    }

    /**
     * YEAR 2: four HOUSES (0 and 1 under one roof, 3 DOWN), two ACTS, five CASES (one fell), LINES of
     * three YEARS, answers, pairs, rows in PLACES 0 to 2, a TAPE, and a PLAN since which nothing was done.
     */
    private static WindowRoll town() {
        WindowRoll x = new WindowRoll();
        x.light(1, 5, 20);
        x.terms(10, 15, 6, 9);
        x.house(0, 100, 2, 10);
        x.house(1, 200, 3, 20);
        x.house(0, 300, 1, 30);
        x.house(2, 50, 1, 5);
        Checks.room(x, 0, 0, 1, 5, -6, 107);
        Checks.room(x, 0, 1, 2, 12);
        Checks.room(x, 1, 2, 0, 4, -104);
        Checks.room(x, 2, 3, 5, 30, -30);
        Checks.room(x, 3, 0, 0, 9);
        x.make(0, 1, 2);
        x.make(1, 1, 1);
        x.roof(0, 1);
        x.down(3);
        Checks.act(x, 0, "from 1 pay 3;counts 2 when panes>5;counts 0 when lattice=1");
        Checks.act(x, 2, "from 1 pay worth/50;part 50 when count>3;apart when families>2");
        x.held(0, 5, 1, false, false, true);
        x.held(1, 12, 2, false, false, false);
        x.appeal(0, 3);
        x.appeal(0, 0);
        x.held(2, 4, 0, false, false, false);
        x.overrule(4);
        x.walk(0, 0);
        x.make(0, 0, 1);
        x.walk(1, 0);
        x.make(0, 0, 0);
        x.look(2, 1);
        x.go();
        x.walk(0, 1);
        x.late(0, 0, 7);
        x.go();
        x.walk(3, 0);
        x.late(2, 1, 4);
        Checks.row(x, 0, 5, 8, 9);
        Checks.row(x, 1, 5, 9);
        x.row(2, 0, 4);
        x.tear(3);
        x.match(0, 1, 2);
        Checks.ask(x, 2, "sum count by house");
        Checks.act(x, 50, "from 1 pay");
        Checks.tape(x, "number by year");
        x.plan(0, 3);
        return x;
    }

    /** YEAR 18: HOUSES, ACTS, CASES, LINES and the TAPE are full, HOUSE 0 of ROOMS, HOUSE 1 of OPENINGS. */
    private static WindowRoll full() {
        WindowRoll x = new WindowRoll();
        for (int h = 0; h < 16; h++) {
            x.house(0, 10 * h, 1, 1 + h);
        }
        for (int r = 0; r < 6; r++) {
            Checks.room(x, 0, 0, 0);
        }
        Checks.room(x, 1, 0, 0, 1, 2, 3, 4, 5, 6, 7, 8, 9, 10);
        Checks.room(x, 2, 0, 0, 1);
        for (int a = 0; a < 12; a++) {
            x.feed(0x61706172, 0x74202020, 0x20202020, 0x20202020, 0x20202020);
            x.act(8 * a);
        }
        for (int c = 0; c < 60; c++) {
            x.held(3, 30, 5, true, true, c % 2 == 0);
        }
        for (int walk = 0; walk < 75; walk++) {
            x.walk(walk % 4, 0);
            if (walk % 4 == 3) {
                x.go();
            }
        }
        for (int f = 0; f < 15; f++) {
            x.feed(0x20202020, 0x20202020, 0x20202020, 0x20202020, 0x20202020);
        }
        x.plan(1, 1);
        return x;
    }

    /** YEAR 99, with one HOUSE of one OPENING that is on the ROLL. */
    private static WindowRoll century() {
        WindowRoll x = Checks.oneRoom(5);
        Checks.act(x, 0, "from 1 pay 7");
        x.walk(0, 0);
        Checks.go(x, 99);
        x.plan(0, 1);
        return x;
    }
}
