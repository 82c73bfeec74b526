import java.util.Random;

/** Promises 36, 37 and 44 to 47: the PLACES' rows, and how they are MATCHED. */
public final class RowsTest {
    private static final Checks C = new Checks();

    public static void main(String[] args) {
        rows();
        widths();
        pasted();
        matches();
        for (int seed = 0; seed < 1500; seed++) {
            compared(new Random(seed));
        }
        C.finish();
    }

    private static void rows() {
        WindowRoll x = new WindowRoll();
        C.is("place", x.row(-1, 0, 1), -2);
        C.is("place", x.row(4, 0, 1), -2);
        C.is("width", x.row(0, -1, 1), -2);
        C.is("width", x.row(0, 4, 1), -2);
        C.is("61", x.row(0, 0, 61), -2);
        C.is("most", x.row(0, 0, Integer.MAX_VALUE), -2);
        C.is("below 0", x.row(0, 0, -1), -3);
        C.is("least", x.row(0, 0, Integer.MIN_VALUE), -3);
        C.is("no place, below 0", x.row(4, 0, -1), -2);
        C.is("places", x.count(9), 0);
        C.is("row", x.row(3, 3, 60), 0);
        C.is("row", x.row(0, 0, 0), 0);
        C.is("places", x.count(9), 2);
        C.is("write", x.write(3, 59, 5), 0);
        C.is("write", x.write(3, 60, 5), -6);
        C.is("write", x.write(3, -1, 5), -6);
        C.is("write", x.write(0, 0, 5), -6);
        C.is("write", x.write(1, 0, 5), -5);
        C.is("write", x.write(4, 0, 5), -2);
        C.is("write", x.write(-1, 0, 5), -2);
        C.is("stays", x.row(3, 0, -1), -3);
        C.is("stays", x.write(3, 59, 5), 0);
        C.is("in place", x.row(3, 0, 1), 0);
        C.is("in place", x.write(3, 1, 0), -6);
        C.is("tear", x.tear(3), true);
        C.is("tear", x.tear(3), false);
        C.is("tear", x.tear(-1), false);
        C.is("tear", x.tear(4), false);
        C.is("nothing", x.write(3, 0, 0), -5);
        C.is("places", x.count(9), 1);
        x.row(3, 3, 2);
        x.row(2, 3, 2);
        C.is("all 0", x.match(2, 3, 1000), 0);
        x.write(3, 1, 7);
        x.row(3, 3, 2);
        C.is("all 0 again", x.match(2, 3, 1000), 0);
    }

    /** The cost of a match with an empty row tells nothing: one with 0 tells the number. */
    private static void widths() {
        long[] v = {127, 128, 255, 256, 32767, 32768, 65536, 2147483648L, 4294967296L, 4294967301L, -1, -249};
        for (int width = 0; width < 4; width++) {
            for (long n : v) {
                long due = width == 0 ? (byte) n : width == 1 ? (short) n : width == 2 ? (int) n : n;
                WindowRoll x = new WindowRoll();
                x.row(0, width, 1);
                x.row(1, width, 1);
                x.write(0, 0, n);
                C.is(n + " of WIDTH " + width, x.match(0, 1, 1000), due < 0 || due > 10000 ? -4
                    : (int) Math.min(due, 2000));
                x.house(0, 0, 1, 1);
                boolean told = Math.abs(due) >= 1 && Math.abs(due) <= 30 || Math.abs(due) > 100 && Math.abs(due) <= 130;
                C.is(n + " of WIDTH " + width, x.room(0, 0, 0, 0), told ? 0 : -4);
            }
        }
    }

    private static void pasted() {
        WindowRoll x = new WindowRoll();
        x.row(0, 3, 5);
        x.row(1, 3, 3);
        x.row(2, 2, 3);
        for (int i = 0; i < 5; i++) {
            x.write(0, i, i + 1);
        }
        C.is("place", x.paste(-1, 0, 0, 0, 0), -2);
        C.is("place", x.paste(0, 0, 4, 0, 0), -2);
        C.is("nothing", x.paste(3, 0, 0, 0, 0), -5);
        C.is("nothing", x.paste(0, 0, 3, 0, 0), -5);
        C.is("WIDTHS", x.paste(0, 0, 2, 0, 1), -7);
        C.is("WIDTHS come first", x.paste(0, -1, 2, 0, 1), -7);
        C.is("below 0", x.paste(0, -1, 1, 0, 1), -6);
        C.is("below 0", x.paste(0, 0, 1, -1, 1), -6);
        C.is("below 0", x.paste(0, 0, 1, 0, -1), -6);
        C.is("beyond", x.paste(0, 3, 1, 0, 3), -6);
        C.is("beyond", x.paste(0, 0, 1, 1, 3), -6);
        C.is("great ones", x.paste(0, Integer.MAX_VALUE, 1, 0, Integer.MAX_VALUE), -6);
        C.is("great ones", x.paste(0, 0, 1, Integer.MAX_VALUE, 1), -6);
        C.is("none at the end", x.paste(0, 5, 1, 3, 0), 0);
        C.is("none beyond it", x.paste(0, 6, 1, 0, 0), -6);
        C.is("paste", x.paste(0, 2, 1, 0, 3), 0);
        same(x, 1, 3, 4, 5);
        C.is("up in its own", x.paste(0, 0, 0, 1, 4), 0);
        same(x, 0, 1, 1, 2, 3, 4);
        C.is("down in its own", x.paste(0, 2, 0, 0, 3), 0);
        same(x, 0, 2, 3, 4, 3, 4);
    }

    private static void same(WindowRoll x, int place, long... due) {
        Checks.row(x, 3, due);
        C.is("the numbers", x.match(place, 3, 1000), 0);
        for (int i = 0; i < due.length; i++) {
            C.is("the numbers", x.matched(i), i);
        }
    }

    private static void matches() {
        WindowRoll x = new WindowRoll();
        Checks.row(x, 0, 5, 10000);
        C.is("place", x.match(-1, 0, 0), -2);
        C.is("place", x.match(0, 4, 0), -2);
        C.is("gap", x.match(0, 0, -1), -2);
        C.is("gap", x.match(0, 0, 1001), -2);
        C.is("nothing", x.match(0, 1, 0), -5);
        C.is("nothing", x.match(1, 0, 0), -5);
        C.is("none yet", x.matched(0), -1);
        Checks.row(x, 1, 10001);
        C.is("number", x.match(0, 1, 0), -4);
        C.is("number", x.match(1, 0, 0), -4);
        Checks.row(x, 1, -1);
        C.is("number", x.match(0, 1, 0), -4);
        Checks.row(x, 1);
        C.is("gaps", x.match(0, 1, 1000), 2000);
        C.is("gaps", x.matched(0), -1);
        C.is("gaps", x.match(1, 0, 7), 14);
        C.is("no such i", x.matched(0), -1);
        C.is("empty", x.match(1, 1, 1000), 0);
        Checks.row(x, 1, 0, 4, 6, 9990);
        C.is("match", x.match(0, 1, 20), 1 + 10 + 40);
        C.is("a pair first", x.matched(0), 1);
        C.is("a pair", x.matched(1), 3);
        C.is("no such i", x.matched(2), -1);
        C.is("no such i", x.matched(-1), -1);
        x.match(0, 2, 0);
        C.is("a refused one changes nothing", x.matched(1), 3);
        Checks.row(x, 1, 5, 10000);
        C.is("gaps cost nothing", x.match(0, 1, 0), 0);
        C.is("a pair if that can be", x.matched(0), 0);
        C.is("a pair if that can be", x.matched(1), 1);
        long[] most = new long[60];
        java.util.Arrays.fill(most, 10000);
        Checks.row(x, 0, most);
        Checks.row(x, 1, new long[60]);
        C.is("the dearest", x.match(0, 1, 1000), 120000);
    }

    /** Small rows, with all that could be paired gone through. */
    private static void compared(Random r) {
        WindowRoll x = new WindowRoll();
        long[] a = new long[r.nextInt(6)];
        long[] b = new long[r.nextInt(6)];
        int range = 1 + r.nextInt(6);
        for (int i = 0; i < a.length; i++) {
            a[i] = r.nextInt(range);
        }
        for (int i = 0; i < b.length; i++) {
            b[i] = r.nextInt(range);
        }
        int gap = r.nextInt(4);
        Checks.row(x, 0, a);
        Checks.row(x, 1, b);
        String best = search(a, 0, b, 0, gap);
        String[] parts = best.split(" ", 2);
        C.is("cost", x.match(0, 1, gap), Long.parseLong(parts[0]));
        int i = 0;
        int j = 0;
        for (char step : parts[1].toCharArray()) {
            if (step == 'p') {
                C.is("pair", x.matched(i++), j++);
            } else if (step == 'q') {
                C.is("gap", x.matched(i++), -1);
            } else {
                j++;
            }
        }
    }

    /** The cost and the steps (p a pair, q and r gaps) of the best: least cost, then least steps. */
    private static String search(long[] a, int i, long[] b, int j, int gap) {
        if (i == a.length && j == b.length) {
            return "0 ";
        }
        String best = null;
        if (i < a.length && j < b.length) {
            best = better(best, search(a, i + 1, b, j + 1, gap), Math.abs(a[i] - b[j]), "p");
        }
        if (i < a.length) {
            best = better(best, search(a, i + 1, b, j, gap), gap, "q");
        }
        if (j < b.length) {
            best = better(best, search(a, i, b, j + 1, gap), gap, "r");
        }
        return best;
    }

    private static String better(String best, String rest, long cost, String step) {
        String[] parts = rest.split(" ", 2);
        long all = Long.parseLong(parts[0]) + cost;
        String way = all + " " + step + parts[1];
        if (best == null) {
            return way;
        }
        long before = Long.parseLong(best.split(" ", 2)[0]);
        return all < before ? way : best;
    }
}
