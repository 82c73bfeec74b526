import java.util.Random;

/** Promises 21 to 25: CASES, which is nearest, appeals, and what falls with one. */
public final class CourtTest {
    private static final Checks C = new Checks();

    public static void main(String[] args) {
        held();
        nearest();
        appeals();
        overruled();
        for (int seed = 0; seed < 50; seed++) {
            compared(new Random(seed));
        }
        C.finish();
    }

    private static void held() {
        WindowRoll x = new WindowRoll();
        C.is("kind", x.held(-1, 1, 0, false, false, false), -2);
        C.is("kind", x.held(4, 1, 0, false, false, false), -2);
        C.is("panes", x.held(0, 0, 0, false, false, false), -2);
        C.is("panes", x.held(0, 31, 0, false, false, false), -2);
        C.is("floor", x.held(0, 1, -1, false, false, false), -2);
        C.is("floor", x.held(0, 1, 6, false, false, false), -2);
        C.is("held", x.held(3, 30, 5, true, false, true), 0);
        C.is("held", x.held(0, 1, 0, false, true, false), 1);
        int[][] due = {{3, 30, 5, 1, 0, 1, -1, 1}, {0, 1, 0, 0, 1, 0, -1, 1}};
        for (int h = 0; h < 2; h++) {
            for (int what = 0; what < 8; what++) {
                C.is("heldOf " + what, x.heldOf(h, what), due[h][what]);
            }
        }
        C.is("heldOf", x.heldOf(2, 0), -2);
        C.is("heldOf", x.heldOf(-1, 0), -2);
        C.is("heldOf", x.heldOf(0, 8), -2);
        C.is("heldOf", x.heldOf(0, -1), -2);
        for (int i = 2; i < 60; i++) {
            C.is("held", x.held(0, 1, 0, false, false, true), i);
        }
        C.is("a 61st", x.held(0, 1, 0, false, false, true), -3);
        C.is("not as told comes first", x.held(4, 1, 0, false, false, true), -2);
        C.is("cases", x.count(3), 60);
        C.is("those that stand", x.count(4), 60);
        x.house(0, 0, 1, 1);
        Checks.room(x, 0, 0, 0, 1);
        C.is("no room for an appeal", x.appeal(0, 0), -3);
        C.is("none such", x.overrule(60), -2);
        C.is("none such", x.heldOf(60, 7), -2);
        x.overrule(0);
        C.is("those that fell are there", x.appeal(0, 0), -3);
        C.is("cases", x.count(3), 60);
        C.is("those that stand", x.count(4), 59);
    }

    private static void nearest() {
        WindowRoll x = new WindowRoll();
        x.house(0, 0, 1, 1);
        Checks.room(x, 0, 1, 2, 10, -110);
        C.is("none", x.nearest(0, 0), -1);
        C.is("opening", x.nearest(0, 2), -2);
        C.is("opening", x.nearest(0, -1), -2);
        C.is("house", x.nearest(1, 0), -2);
        int[][] cases = {{2, 10, 2, 0, 0, 4}, {1, 13, 2, 0, 0, 3}, {1, 10, 1, 0, 0, 2}, {1, 10, 2, 1, 0, 3},
            {1, 10, 2, 0, 1, 3}, {0, 1, 5, 1, 1, 4 + 9 + 6 + 3 + 3}};
        for (int[] k : cases) {
            WindowRoll y = new WindowRoll();
            y.house(0, 0, 1, 1);
            Checks.room(y, 0, 1, 2, 10);
            y.held(k[0], k[1], k[2], k[3] == 1, k[4] == 1, true);
            y.terms(0, 0, k[5], 0);
            C.is("at most NEAR", y.nearest(0, 0), 0);
            y.terms(0, 0, k[5] - 1, 0);
            C.is("beyond NEAR", y.nearest(0, 0), -1);
        }
        x.held(1, 11, 2, false, false, true);
        x.held(1, 9, 2, false, false, true);
        x.held(1, 12, 2, false, false, true);
        C.is("of several the latest", x.nearest(0, 0), 1);
        x.overrule(1);
        C.is("of those that stand", x.nearest(0, 0), 0);
        x.down(0);
        C.is("of a HOUSE that is DOWN", x.nearest(0, 0), 0);
    }

    private static void appeals() {
        WindowRoll x = new WindowRoll();
        x.house(0, 0, 1, 1);
        Checks.room(x, 0, 1, 2, 10, -110, 1, 30, 30);
        C.is("opening", x.appeal(0, 5), -2);
        C.is("opening", x.appeal(0, -1), -2);
        C.is("house", x.appeal(1, 0), -2);
        Checks.act(x, 0, "counts 0 when panes=1");
        Checks.act(x, 1, "counts 0");
        x.terms(0, 0, 0, 0);
        C.is("a window by WEIGHT", x.appeal(0, 0), 0);
        C.is("none by WEIGHT", x.appeal(0, 2), 1);
        int[][] due = {{1, 10, 2, 0, 0, 1, -1, 1}, {1, 1, 2, 0, 0, 0, -1, 1}};
        for (int h = 0; h < 2; h++) {
            for (int what = 0; what < 8; what++) {
                C.is("the new CASE " + what, x.heldOf(h, what), due[h][what]);
            }
        }
        C.is("EXCUSED", x.appeal(0, 2), -7);
        C.is("EXCUSED by", x.opening(0, 2, 7), 1);
        C.is("not EXCUSED", x.opening(0, 0, 7), -1);
        C.is("EXCUSED ones", x.count(8), 1);
        x.terms(0, 0, 60, 0);
        C.is("the nearest tells", x.appeal(0, 1), 0);
        C.is("leans on it", x.heldOf(2, 6), 0);
        C.is("back", x.heldOf(2, 3), 1);
        C.is("lattice", x.heldOf(2, 4), 1);
        x.held(1, 29, 2, false, false, false);
        C.is("the nearest tells, not WEIGHT", x.appeal(0, 3), 1);
        C.is("leans on it", x.heldOf(4, 6), 3);
        C.is("the new one is nearer", x.appeal(0, 4), 1);
        C.is("leans on it", x.heldOf(5, 6), 4);
        C.is("none is a window: weight", x.counted(0, 0, 0), 2);
        x.down(0);
        C.is("DOWN", x.appeal(0, 0), -2);
        WindowRoll y = new WindowRoll();
        y.house(0, 0, 1, 1);
        Checks.room(y, 0, 0, 0, 4);
        Checks.act(y, 1, "counts 0");
        C.is("this YEAR's ACT", y.appeal(0, 0), 0);
        y.overrule(0);
        y.go();
        C.is("this YEAR's ACT", y.appeal(0, 0), 1);
    }

    private static void overruled() {
        WindowRoll x = new WindowRoll();
        C.is("none", x.overrule(0), -2);
        x.house(0, 0, 1, 1);
        x.house(0, 0, 1, 1);
        Checks.room(x, 0, 0, 0, 1, 2, 3, 20);
        Checks.room(x, 1, 0, 0, 4, 30);
        x.held(0, 1, 0, false, false, false);
        x.held(0, 29, 0, false, false, false);
        x.terms(0, 0, 2, 0);
        C.is("appeal", x.appeal(0, 1), 1);
        C.is("appeal", x.appeal(0, 2), 1);
        C.is("appeal", x.appeal(1, 0), 1);
        C.is("appeal", x.appeal(1, 1), 1);
        C.is("appeal", x.appeal(0, 0), 1);
        C.is("a chain", x.heldOf(4, 6), 3);
        C.is("another", x.heldOf(5, 6), 1);
        C.is("EXCUSED ones", x.count(8), 5);
        C.is("a leaf", x.overrule(4), 1);
        C.is("no more", x.opening(1, 0, 7), -1);
        C.is("again", x.overrule(4), -2);
        C.is("none such", x.overrule(7), -2);
        C.is("none such", x.overrule(-1), -2);
        C.is("all that lean, fallen ones aside", x.overrule(0), 4);
        C.is("EXCUSED ones", x.count(8), 1);
        C.is("stands", x.heldOf(0, 7), 0);
        C.is("stands", x.heldOf(3, 7), 0);
        C.is("stands", x.heldOf(5, 7), 1);
        C.is("those that stand", x.count(4), 2);
        C.is("cases", x.count(3), 7);
        C.is("appeals again", x.appeal(1, 0), 0);
        C.is("leans on none", x.heldOf(7, 6), -1);
    }

    /** Many appeals and falls, with what stands followed beside the object. */
    private static void compared(Random r) {
        WindowRoll x = new WindowRoll();
        x.house(0, 0, 1, 1);
        Checks.room(x, 0, 0, 0, 5, 6, 7, 8, 9, 10, 11, 12, 13, 14);
        int[] leans = new int[60];
        boolean[] stands = new boolean[60];
        int cases = 0;
        x.terms(0, 0, 1 + r.nextInt(4), 0);
        for (int i = 0; i < 90; i++) {
            int o = r.nextInt(10);
            if (r.nextInt(3) == 0 && cases > 0) {
                int c = r.nextInt(cases);
                int fell = stands[c] ? 0 : -2;
                if (stands[c]) {
                    stands[c] = false;
                    fell = 1;
                    for (int turn = 0; turn < cases; turn++) {
                        for (int k = 0; k < cases; k++) {
                            if (stands[k] && leans[k] != -1 && !stands[leans[k]]) {
                                stands[k] = false;
                                fell++;
                            }
                        }
                    }
                }
                C.is("overrule", x.overrule(c), fell);
            } else if (x.opening(0, o, 7) == -1 && cases < 60) {
                int near = x.nearest(0, o);
                C.is("appeal", x.appeal(0, o), near == -1 || x.heldOf(near, 5) == 1 ? 0 : 1);
                leans[cases] = near;
                stands[cases++] = true;
            } else if (cases < 60) {
                x.held(0, 5 + r.nextInt(10), 0, false, false, r.nextBoolean());
                leans[cases] = -1;
                stands[cases++] = true;
            }
            for (int k = 0; k < cases; k++) {
                C.is("stands", x.heldOf(k, 7), stands[k] ? 1 : 0);
            }
            for (int k = 0; k < 10; k++) {
                int by = x.opening(0, k, 7);
                C.is("EXCUSED by one that stands", by == -1 || stands[by] && x.heldOf(by, 5) == 0, true);
            }
        }
    }
}
