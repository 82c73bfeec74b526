import java.util.Arrays;
import java.util.HashMap;
import java.util.Map;

/** All that calls tell of an object, in parts: none makes more than 220 calls, and each needs an object of its own. */
final class Probe {
    static final int PARTS = 11;
    static final int FAULT = 0;
    private static final Map<String, long[]> KNOWN = new HashMap<>();

    private final long[] told = new long[400];
    private int size = 0;

    private Probe() {
    }

    /** What a part tells of a town to which nothing more was done (its TAPE emptied or not): found once for each. */
    static long[] known(Towns town, boolean emptied, int part) {
        return KNOWN.computeIfAbsent(town + " " + emptied + " " + part, k -> {
            WindowRoll x = town.make();
            if (emptied) {
                x.end(0);
            }
            return part(x, part);
        });
    }

    static long[] part(WindowRoll x, int part) {
        Probe p = new Probe();
        switch (part) {
            case FAULT: p.fault(x); break;
            case 1: p.kept(x); break;
            case 2: p.houses(x); break;
            case 3: p.openings(x); break;
            case 4: p.cases(x); break;
            case 5: p.lines(x); break;
            case 6: p.acts(x); break;
            case 7: p.rows(x); break;
            case 8: p.terms(x); break;
            case 9: p.years(x); break;
            default: p.tape(x); break;
        }
        return Arrays.copyOf(p.told, p.size);
    }

    private void put(long answer) {
        told[size++] = answer;
    }

    private void fault(WindowRoll x) {
        put(x.fault());
    }

    /** What was kept of plan(), ask() and match(); whether anything was done since the PLAN. */
    private void kept(WindowRoll x) {
        for (int what = 0; what < 10; what++) {
            put(x.count(what));
        }
        for (int i = 0; i < 12; i++) {
            put(x.planned(i));
            put(x.matched(i));
            put(x.answer(i, 0));
            put(x.answer(i, 1));
            put(x.answer(i, 2));
        }
        put(x.owner());
        for (int o = 0; o < 10; o++) {
            put(x.opening(0, o, 6));
        }
    }

    private void houses(WindowRoll x) {
        for (int h = 0; h < 16; h++) {
            for (int what = 0; what < 10; what++) {
                put(x.houseOf(h, what));
            }
            put(x.paid(h));
            put(x.due(h));
        }
    }

    private void openings(WindowRoll x) {
        for (int h = 0; h < 4; h++) {
            for (int o = 0; o < (h < 2 ? 10 : 3); o++) {
                for (int what = 0; what < 8; what++) {
                    put(x.opening(h, o, what));
                }
            }
        }
    }

    private void cases(WindowRoll x) {
        for (int c = 0; c < 60; c++) {
            put(x.heldOf(c, 7));
            put(x.heldOf(c, 6));
        }
        for (int c = 0; c < 9; c++) {
            for (int what = 0; what < 6; what++) {
                put(x.heldOf(c, what));
            }
        }
        for (int o = 0; o < 4; o++) {
            put(x.nearest(0, o));
        }
    }

    private void lines(WindowRoll x) {
        for (int h = 0; h < 4; h++) {
            for (int known = 0; known < 4; known++) {
                for (int what = 0; what < 4; what++) {
                    put(x.roll(h, 0, known, what));
                    put(x.roll(h, known, 2, what));
                }
                put(x.span(h, 1, known, 0));
                put(x.span(h, 1, known, 1));
            }
        }
        for (int a = 0; a < 4; a++) {
            for (int what = 0; what < 4; what++) {
                put(x.habit(a, (a + 1) % 4, what));
            }
        }
    }

    private void acts(WindowRoll x) {
        for (int y = 0; y < 100; y++) {
            put(x.tax(0, y, 5));
            put(x.counted(0, y, 0));
        }
        put(x.weight(0, 0, 0));
        put(x.heap(1));
        put(x.route(0, 500));
    }

    /** The numbers of the PLACES by how each goes with the others, their lengths by what can be written. */
    private void rows(WindowRoll x) {
        for (int p = 0; p < 4; p++) {
            for (int q = 0; q < 4; q++) {
                put(x.match(p, q, 1));
                put(x.match(p, q, 1000));
                put(x.paste(p, 0, q, 0, 0));
            }
        }
        for (int p = 0; p < 4; p++) {
            put(x.write(p, 2, 7));
            put(x.write(p, 3, 70000));
            put(x.write(p, 4, 0));
            put(x.match(p, p, 1));
            put(x.tear(p) ? 1 : 0);
        }
    }

    /** LIGHT, ENOUGH, the costs, NEAR and MOVES by what comes of them. */
    private void terms(WindowRoll x) {
        for (int h = 0; h < 4; h++) {
            put(x.plan(h, 3));
            put(x.planned(0));
            put(x.planned(2));
            put(x.houseOf(h, 7));
            put(x.span(h, 3, x.count(0), 0));
            put(x.span(h, 3, x.count(0), 1));
        }
        put(x.plan(0, 3));
        put(x.owner());
        for (int o = 0; o < 4; o++) {
            put(x.nearest(0, o));
            put(x.appeal(0, o));
        }
    }

    /** Who walked where this YEAR, and what is paid as YEARS go by. */
    private void years(WindowRoll x) {
        for (int c = 0; c < 4; c++) {
            for (int s = 0; s < 4; s++) {
                put(x.walk(c, s));
            }
        }
        put(x.count(5));
        for (int y = 0; y < 4; y++) {
            put(x.go());
            put(x.count(0));
        }
        for (int h = 0; h < 16; h++) {
            put(x.paid(h));
        }
        put(x.house(3, 7, 1, 1));
    }

    private void tape(WindowRoll x) {
        put(x.count(6));
        put(x.ask(0));
        put(x.fault());
        put(x.count(6));
        for (int i = 0; i < 4; i++) {
            put(x.answer(i, 0));
            put(x.answer(i, 1));
        }
    }
}
