/** The edges of Terms IX and X, of promises 36, 37 and 43 to 47: rows, how they are MATCHED, and how many there are. */
public final class RowEdgesTest {
    private static final Checks C = new Checks();

    public static void main(String[] args) throws Exception {
        C.runAll(RowEdgesTest.class);
    }

    private static WindowRoll rows(long[] first, long[] second) {
        WindowRoll x = new WindowRoll();
        Checks.row(x, 0, first);
        Checks.row(x, 1, second);
        return x;
    }

    private static long[] of(long... numbers) {
        return numbers;
    }

    /** The least cost, and with which each number of the first row goes. */
    private static void matched(long[] first, long[] second, int gap, int cost, int... with) {
        WindowRoll x = rows(first, second);
        C.is("cost", x.match(0, 1, gap), cost);
        for (int i = 0; i < with.length; i++) {
            C.is("number " + i, x.matched(i), with[i]);
        }
        C.is("no more", x.matched(with.length), -1);
    }

    /** Term IX: "pairs .. in order in both". */
    private static void term9Order() {
        matched(of(1, 2), of(2, 1), 10, 2, 0, 1);
        matched(of(100, 1), of(1, 100), 100, 198, 0, 1);
        matched(of(100, 1), of(1, 100), 99, 198, 0, 1);
        matched(of(100, 1), of(1, 100), 98, 196, -1, 0);
    }

    /** Term IX: "each costs the difference, each number without one a gap". */
    private static void term9Costs() {
        matched(of(7), of(10), 1000, 3, 0);
        matched(of(10), of(7), 1000, 3, 0);
        matched(of(7), of(), 9, 9, -1);
        matched(of(), of(7), 9, 9);
        matched(of(), of(), 9, 0);
        matched(of(5, 50, 500), of(50), 3, 6, -1, 0, -1);
        matched(of(0), of(10000), 1000, 2000, -1);
        matched(of(0), of(2000), 1000, 2000, 0);
        matched(of(0), of(2001), 1000, 2000, -1);
    }

    /** Term IX: "of all of the least cost: .. a pair if that can be". */
    private static void term9PairFirst() {
        matched(of(5), of(5), 0, 0, 0);
        matched(of(5), of(9), 2, 4, 0);
        matched(of(5), of(10), 2, 4, -1);
        matched(of(5, 5), of(5), 7, 7, 0, -1);
        matched(of(5), of(5, 5), 7, 7, 0);
        matched(of(1, 3), of(2), 5, 6, 0, -1);
        matched(of(5, 5, 5), of(5, 5), 1, 1, 0, 1, -1);
    }

    /** Term IX: "else a gap in the first row's number, else in the second one's". */
    private static void term9GapFirst() {
        matched(of(1, 9), of(9, 1), 1, 2, -1, 0);
        matched(of(1, 9), of(9), 1, 1, -1, 0);
        matched(of(9), of(1, 9), 1, 1, 1);
        matched(of(4, 8, 2), of(2, 4, 8), 1, 2, 1, 2, -1);
        matched(of(5, 1, 9), of(5, 9, 1), 1, 2, 0, -1, 1);
        matched(of(5, 6, 1, 9, 7), of(5, 6, 9, 1, 7), 1, 2, 0, 1, -1, 2, 4);
    }

    /** Term IX: rows of 60 whose gaps lie apart, so that the way through both is as long as it can be. */
    private static void term9Long() {
        long[] first = new long[60];
        long[] second = new long[60];
        int[] with = new int[60];
        for (int i = 0; i < 60; i++) {
            first[i] = i == 0 ? 7777 : i <= 40 ? 3000 : 9000;
            second[i] = i < 40 ? 1 : i == 40 ? 7777 : 9000;
            with[i] = i == 0 ? 40 : i <= 40 ? -1 : i;
        }
        matched(first, second, 1, 80, with);
        for (int i = 0; i < 60; i++) {
            first[i] = i == 0 ? 7777 : 3000;
            second[i] = i == 59 ? 7777 : 1;
            with[i] = i == 0 ? 59 : -1;
        }
        matched(first, second, 1, 118, with);
        java.util.Arrays.fill(with, -1);
        with[59] = 0;
        matched(second, first, 1, 118, with);
    }

    /** Term IX: gaps that cost nothing: a gap in the first row's number comes ahead of one in the second one's. */
    private static void term9NoCost() {
        matched(of(1, 2, 3, 4), of(9, 2, 4, 9), 0, 0, -1, -1, -1, -1);
        matched(of(1, 2, 3, 4), of(2, 4, 9), 0, 0, -1, 0, -1, 1);
        matched(of(3, 1), of(1, 3), 0, 0, -1, 0);
    }

    /** Term X: "PLACES 0 .. 3". */
    private static void term10Places() {
        WindowRoll x = new WindowRoll();
        for (int p = 0; p < 4; p++) {
            C.is("PLACE " + p, x.row(p, p, p + 1), 0);
            C.is("PLACES that have a row", x.count(9), p + 1);
        }
        for (int p = 0; p < 4; p++) {
            C.is("its last number", x.write(p, p, 1), 0);
            C.is("none behind it", x.write(p, p + 1, 1), -6);
        }
    }

    /** Term X: "numbers of 1, 2, 4 or 8 bytes (WIDTH 0 .. 3)": the least and the greatest, and what goes around. */
    private static void term10Widths() {
        int[] bits = {8, 16, 32, 64};
        for (int width = 0; width < 4; width++) {
            for (long around = -1; around < 2; around++) {
                long turn = width == 3 ? 0 : around << bits[width];
                same(width, 5 + turn, 5);
                same(width, 130 - (width == 0 ? 3 : 0) + turn, width == 0 ? 127 : 130);
                same(width, -5 + turn, -5);
                same(width, -128 + turn, -128);
                same(width, turn, 0);
            }
            long half = width == 3 ? Long.MIN_VALUE : 1L << bits[width] - 1;
            same(width, half, width == 3 ? half : -half);
            same(width, half - 1, half - 1);
            same(width, half + 5, width == 3 ? half + 5 : 5 - half);
        }
    }

    /** A number in a row of a WIDTH is as due: so it is told by match(), or as an OPENING by room(). */
    private static void same(int width, long number, long due) {
        WindowRoll x = new WindowRoll();
        x.row(0, width, 1);
        x.row(1, 3, 1);
        C.is("write", x.write(0, 0, number), 0);
        x.write(1, 0, due);
        boolean small = due >= 0 && due <= 10000;
        C.is(number + " of WIDTH " + width, x.match(0, 1, 1000), small ? 0 : -4);
        x.house(0, 0, 1, 1);
        long size = Math.abs(due);
        boolean opening = size >= 1 && size <= 30 || size >= 101 && size <= 130;
        C.is(number + " of WIDTH " + width, x.room(0, 0, 0, 0), opening ? 0 : -4);
        if (opening) {
            C.is("panes", x.opening(0, 0, 1), size % 100);
            C.is("back", x.opening(0, 0, 4), due < 0 ? 1 : 0);
            C.is("lattice", x.opening(0, 0, 5), size / 100);
        }
    }

    /** Term X: rows have numbers, "at most 60, or nothing"; a row of none is not nothing. */
    private static void term10Sixty() {
        WindowRoll x = new WindowRoll();
        C.is("60", x.row(0, 3, 60), 0);
        C.is("the last one", x.write(0, 59, 7), 0);
        C.is("none behind it", x.write(0, 60, 7), -6);
        C.is("none", x.row(1, 3, 0), 0);
        C.is("no number", x.write(1, 0, 7), -6);
        C.is("both have a row", x.count(9), 2);
        C.is("60 gaps", x.match(0, 1, 1), 60);
    }

    /** Promise 36: "a gap costing so much (0 .. 1000)". */
    private static void promise36Gap() {
        for (int gap : new int[] {0, 1, 999, 1000}) {
            C.is("gap " + gap, rows(of(0), of()).match(0, 1, gap), gap);
        }
        C.beyond(Towns.TOWN, "gap", 0, 1000, (x, gap) -> x.match(0, 1, gap), -2);
    }

    /** Promise 36: "-2: there are none such"; one PLACE may be both. */
    private static void promise36Places() {
        for (int place : Checks.beyond(0, 3)) {
            C.refused(Towns.TOWN, "the first " + place, x -> x.match(place, 0, 1), -2);
            C.refused(Towns.TOWN, "the second " + place, x -> x.match(0, place, 1), -2);
        }
        C.is("with itself", rows(of(3, 1, 2), of()).match(0, 0, 1), 0);
    }

    /** Promise 36: "-5: one has nothing", behind -2 and ahead of -4. */
    private static void promise36Nothing() {
        C.refused(Towns.TOWN, "the first", x -> x.match(3, 0, 1), -5);
        C.refused(Towns.TOWN, "the second", x -> x.match(0, 3, 1), -5);
        C.refused(Towns.TOWN, "both", x -> x.match(3, 3, 1), -5);
        C.refused(Towns.TOWN, "nothing, and another cost", x -> x.match(3, 0, -1), -2);
        WindowRoll x = rows(of(-1), of());
        C.is("nothing, and a number", x.match(0, 2, 1), -5);
    }

    /** Promise 36: "-4: a number is not 0 .. 10000", in either row, wherever it stands. */
    private static void promise36Numbers() {
        C.is("0", rows(of(0, 0), of(0)).match(0, 1, 5), 5);
        C.is("10000", rows(of(10000, 10000), of(10000)).match(0, 1, 5), 5);
        for (long bad : new long[] {-1, 10001, Long.MIN_VALUE, Long.MAX_VALUE, 1L << 32, -(1L << 32)}) {
            for (int at = 0; at < 3; at++) {
                long[] row = {1, 2, 3};
                row[at] = bad;
                WindowRoll x = rows(row, of(1, 2));
                C.is(bad + " in the first", x.match(0, 1, 5), -4);
                C.is(bad + " in the second", x.match(1, 0, 5), -4);
                C.is("none MATCHED", x.matched(0), -1);
            }
        }
    }

    /** Promise 36: the dearest that can be. */
    private static void promise36Dearest() {
        WindowRoll x = new WindowRoll();
        x.row(0, 2, 60);
        x.row(1, 2, 60);
        for (int i = 0; i < 60; i++) {
            x.write(0, i, 10000);
        }
        C.is("120 gaps", x.match(0, 1, 1000), 120000);
        C.is("the last one", x.matched(59), -1);
        for (int i = 0; i < 60; i++) {
            x.write(1, i, 8000);
        }
        C.is("60 pairs", x.match(0, 1, 1000), 120000);
        C.is("the last one", x.matched(59), 59);
        C.is("no such i", x.matched(60), -1);
    }

    /** Promise 37: "by the latest match() that told a cost": a refused one leaves it. */
    private static void promise37Latest() {
        WindowRoll x = rows(of(5, 6), of(6));
        x.match(0, 1, 0);
        C.is("first", x.matched(1), 0);
        x.match(0, 2, 0);
        x.match(0, 1, -1);
        x.write(0, 0, -1);
        x.match(0, 1, 0);
        C.is("it stays", x.matched(0), -1);
        C.is("it stays", x.matched(1), 0);
        x.match(1, 1, 0);
        C.is("a new one", x.matched(0), 0);
        C.is("no such i any more", x.matched(1), -1);
    }

    /** Promise 37: "NONE: with none, no such i", and ahead of any. */
    private static void promise37None() {
        C.is("ahead of any", new WindowRoll().matched(0), -1);
        WindowRoll x = rows(of(5, 700), of(5, 6));
        x.match(0, 1, 1);
        C.is("with one", x.matched(0), 0);
        C.is("with none", x.matched(1), -1);
        for (int i : Checks.beyond(0, 1)) {
            C.is("i " + i, x.matched(i), -1);
        }
        x.tear(0);
        C.is("it stays, though its row is torn", x.matched(0), 0);
    }

    /** Promise 43: what 0 to 9, and "NONE for others". */
    private static void promise43Counts() {
        int[] town = {2, 4, 2, 5, 4, 10, 14, 3, 1, 3};
        int[] full = {18, 16, 12, 60, 60, 1200, 300, 1, 0, 1};
        for (int what = 0; what < 10; what++) {
            C.is("town " + what, Towns.TOWN.make().count(what), town[what]);
            C.is("full " + what, Towns.FULL.make().count(what), full[what]);
        }
        C.beyond(Towns.TOWN, "what", 0, 9, (x, what) -> x.count(what), -1);
    }

    /** Promise 43: "7 RULES of this YEAR's ACT", 0 ahead of all ACTS. */
    private static void promise43Rules() {
        WindowRoll x = new WindowRoll();
        Checks.act(x, 1, "spare;apart");
        Checks.act(x, 3, "spare");
        int[] due = {0, 2, 2, 1, 1};
        for (int y = 0; y < 5; y++) {
            C.is("YEAR " + y, x.count(7), due[y]);
            x.go();
        }
    }

    /** Promise 44: "A PLACE has a row of n numbers of a WIDTH, all 0 (in place of another one)". */
    private static void promise44AllZero() {
        WindowRoll x = new WindowRoll();
        for (int width = 0; width < 4; width++) {
            x.row(0, width, 3);
            for (int i = 0; i < 3; i++) {
                x.write(0, i, 9);
            }
            C.is("in place of another one", x.row(0, 3 - width, 5), 0);
            x.row(1, 0, 5);
            C.is("all 0", x.match(0, 1, 1000), 0);
            C.is("the PLACES that have a row", x.count(9), 2);
        }
        Checks.row(x, 0, 9, 9, 9);
        x.tear(0);
        x.row(0, 3, 3);
        x.row(1, 3, 3);
        C.is("all 0, as it was torn", x.match(0, 1, 1000), 0);
    }

    /** Promise 44: "-2: there is no such PLACE or WIDTH, or n is above 60". */
    private static void promise44Refused() {
        C.beyond(Towns.TOWN, "PLACE", 0, 3, (x, place) -> x.row(place, 0, 5), -2);
        C.beyond(Towns.TOWN, "WIDTH", 0, 3, (x, width) -> x.row(0, width, 5), -2);
        for (int n : new int[] {61, Integer.MAX_VALUE}) {
            C.refused(Towns.TOWN, "n " + n, x -> x.row(0, 0, n), -2);
        }
        for (int n : new int[] {0, 1, 60}) {
            C.is("n " + n, new WindowRoll().row(0, 0, n), 0);
        }
    }

    /** Promise 44: "-3, and the PLACE stays: n is below 0", behind -2. */
    private static void promise44BelowZero() {
        for (int n : new int[] {-1, Integer.MIN_VALUE}) {
            C.refused(Towns.TOWN, "n " + n, x -> x.row(0, 0, n), -3);
            C.refused(Towns.TOWN, "n " + n + " of none", x -> x.row(3, 0, n), -3);
            C.refused(Towns.TOWN, "n " + n + ", no PLACE", x -> x.row(4, 0, n), -2);
            C.refused(Towns.TOWN, "n " + n + ", no WIDTH", x -> x.row(0, 4, n), -2);
        }
    }

    /** Promise 45: "The PLACE has nothing: true". */
    private static void promise45Torn() {
        for (int place = 0; place < 3; place++) {
            WindowRoll x = Towns.TOWN.make();
            C.is("tear", x.tear(place), true);
            C.is("nothing", x.write(place, 0, 1), -5);
            C.is("the others stay", x.count(9), 2);
            C.is("again", x.tear(place), false);
        }
        WindowRoll x = new WindowRoll();
        x.row(0, 0, 0);
        C.is("a row of none", x.tear(0), true);
    }

    /** Promise 45: "false, if it had nothing, or there is none such". */
    private static void promise45Refused() {
        C.refused(Towns.TOWN, "it had nothing", x -> x.tear(3) ? 1 : 0, 0);
        C.beyond(Towns.TOWN, "PLACE", 0, 3, (x, place) -> x.tear(place) ? 1 : 0, 0);
    }

    /** Promise 46: "Number i of the PLACE's row is v", and no other one. */
    private static void promise46Written() {
        for (int i = 0; i < 60; i++) {
            WindowRoll x = new WindowRoll();
            x.row(0, 3, 60);
            x.row(1, 3, 60);
            C.is("write", x.write(0, i, 777), 0);
            x.write(1, i, 777);
            C.is("number " + i, x.match(0, 1, 1000), 0);
            C.is("goes with itself", x.matched(i), i);
            x.write(1, i, 0);
            C.is("number " + i, x.match(0, 1, 1000), 777);
        }
    }

    /** Promise 46: "-2: there is no such PLACE; -5: it has nothing; -6: there is no such number". */
    private static void promise46Refused() {
        C.beyond(Towns.TOWN, "PLACE", 0, 3, (x, place) -> x.write(place, 0, 1), -2);
        for (int i : Checks.beyond(0, 2)) {
            C.refused(Towns.TOWN, "number " + i, x -> x.write(0, i, 1), -6);
            C.refused(Towns.TOWN, "number " + i + " of nothing", x -> x.write(3, i, 1), -5);
        }
        C.beyond(Towns.TOWN, "number", 0, 1, (x, i) -> x.write(1, i, 1), -6);
    }

    /** Promise 47: "So many numbers .. are put to another one's, from one on". */
    private static void promise47Pasted() {
        for (int i = 0; i <= 4; i++) {
            for (int k = 0; k <= 5; k++) {
                for (int n = 0; n <= Math.min(4 - i, 5 - k); n++) {
                    long[] from = {10, 20, 30, 40};
                    long[] to = {1, 2, 3, 4, 5};
                    WindowRoll x = rows(from, to);
                    C.is("paste", x.paste(0, i, 1, k, n), 0);
                    System.arraycopy(from, i, to, k, n);
                    Checks.row(x, 2, to);
                    C.is("put there", x.match(1, 2, 1000), 0);
                    Checks.row(x, 2, from);
                    C.is("they stay", x.match(0, 2, 1000), 0);
                }
            }
        }
    }

    /** Promise 47: "(or its own)", "as they were": also if both parts have numbers in common. */
    private static void promise47Own() {
        for (int i = 0; i <= 6; i++) {
            for (int k = 0; k <= 6; k++) {
                for (int n = 0; n <= 6 - Math.max(i, k); n++) {
                    long[] own = {10, 20, 30, 40, 50, 60};
                    WindowRoll x = rows(own, of());
                    C.is("paste", x.paste(0, i, 0, k, n), 0);
                    long[] before = own.clone();
                    for (int j = 0; j < n; j++) {
                        own[k + j] = before[i + j];
                    }
                    Checks.row(x, 1, own);
                    C.is("as they were", x.match(0, 1, 1000), 0);
                }
            }
        }
    }

    /** Promise 47: "-2: there is no such PLACE; -5: one has nothing", in this order. */
    private static void promise47Places() {
        for (int place : Checks.beyond(0, 3)) {
            C.refused(Towns.TOWN, "the first " + place, x -> x.paste(place, 0, 0, 0, 1), -2);
            C.refused(Towns.TOWN, "the second " + place, x -> x.paste(0, 0, place, 0, 1), -2);
            C.refused(Towns.TOWN, "none such and nothing", x -> x.paste(3, 0, place, 0, 1), -2);
        }
        C.refused(Towns.TOWN, "the first", x -> x.paste(3, 0, 0, 0, 1), -5);
        C.refused(Towns.TOWN, "the second", x -> x.paste(0, 0, 3, 0, 1), -5);
        C.refused(Towns.TOWN, "nothing, from below 0", x -> x.paste(0, -1, 3, 0, 1), -5);
    }

    /** Promise 47: "-7: they are not of one WIDTH", ahead of -6. */
    private static void promise47Widths() {
        for (int width = 0; width < 4; width++) {
            for (int other = 0; other < 4; other++) {
                WindowRoll x = new WindowRoll();
                x.row(0, width, 2);
                x.row(1, other, 2);
                C.is(width + " to " + other, x.paste(0, 0, 1, 0, 2), width == other ? 0 : -7);
            }
        }
        C.refused(Towns.TOWN, "WIDTHS", x -> x.paste(0, 0, 2, 0, 1), -7);
        C.refused(Towns.TOWN, "WIDTHS, none", x -> x.paste(0, 0, 2, 0, 0), -7);
        C.refused(Towns.TOWN, "WIDTHS, and beyond", x -> x.paste(0, 9, 2, -1, 1), -7);
    }

    /** Promise 47: "-6, and nothing happens: some are beyond their rows". */
    private static void promise47Beyond() {
        int most = Integer.MAX_VALUE;
        int[][] beyond = {{0, 0, 4}, {1, 0, 3}, {3, 0, 1}, {0, 0, 3}, {0, 1, 2}, {0, 2, 1}, {most, 0, 1}, {0, most, 1},
            {0, 0, most}, {1, 0, most}, {most, most, most}, {1, 1, most}, {4, 0, 0}, {0, 3, 0}};
        for (int[] b : beyond) {
            C.refused(Towns.TOWN, b[0] + " to " + b[1] + ", " + b[2],
                x -> x.paste(0, b[0], 1, b[1], b[2]), -6);
        }
        C.refused(Towns.TOWN, "beyond its own", x -> x.paste(0, 0, 0, 1, 3), -6);
        WindowRoll x = Towns.TOWN.make();
        C.is("just to their ends", x.paste(0, 1, 1, 0, 2), 0);
        C.is("none, at their ends", x.paste(0, 3, 1, 2, 0), 0);
    }

    /** Promise 47: -6: "or a place or n is below 0". */
    private static void promise47BelowZero() {
        int least = Integer.MIN_VALUE;
        int[][] below = {{-1, 0, 1}, {0, -1, 1}, {0, 0, -1}, {least, 0, 1}, {0, least, 1}, {0, 0, least}, {-1, -1, 0},
            {least, least, least}, {1, 1, -1}, {-1, 0, 2}, {Integer.MAX_VALUE, 0, least}, {3, 2, least}};
        for (int[] b : below) {
            C.refused(Towns.TOWN, b[0] + " to " + b[1] + ", " + b[2],
                x -> x.paste(0, b[0], 1, b[1], b[2]), -6);
        }
    }
}
