import java.lang.reflect.Method;
import java.util.Arrays;
import java.util.Random;

/** Promises 1 to 47 and all Terms: runs of any calls, each with the answer that the model gives to it. */
public final class ModelTest {
    private static final Checks C = new Checks();
    private static final int RUNS = 1500;
    private static final int CALLS = 512;
    /** The calls by how often they come, and for each argument its kind. */
    private static final String[] CALL_FORMS = {
        "light kind light enough", "terms cost cost near moves", "house street worth families minutes",
        "house street worth families minutes", "room house kind floor place", "room house kind floor place",
        "room house kind floor place", "make house opening state", "make house opening state",
        "worth house worth families", "roof house house", "down rarehouse", "act year", "act year", "act year",
        "fault", "weight house opening year", "counted house year what3", "tax house year count", "due house",
        "plan house years", "planned k", "owner", "held kind panes floor bool bool bool", "nearest house opening",
        "appeal house opening", "appeal house opening", "overrule held", "heldOf held what8", "walk collector street",
        "walk collector street", "look collector house", "look collector house", "route street routeminutes",
        "late house past count", "late house past count", "go", "go", "roll house past now what4",
        "roll house past now what4", "span house year now what2", "habit collector collector what4", "ask now",
        "ask now", "answer k what3", "answer k what3", "match place place gap", "matched k", "beside years what5",
        "beside years what5", "heap small", "houseOf house what10", "opening house opening what8", "paid house",
        "count what10", "row place what4 length", "tear rareplace", "write place k number", "write place k number",
        "write place k number", "paste place small place small small", "feed any any any any any", "end k"};

    public static void main(String[] args) throws Exception {
        int runs = args.length > 0 ? Integer.parseInt(args[0]) : RUNS;
        for (int seed = 0; seed < runs; seed++) {
            run(seed);
        }
        C.finish();
    }

    private static Method method(Class<?> of, String name) {
        return Arrays.stream(of.getDeclaredMethods()).filter(m -> m.getName().equals(name)
            && java.lang.reflect.Modifier.isPublic(m.getModifiers())).findFirst().get();
    }

    private static void run(int seed) throws Exception {
        Random r = new Random(seed);
        WindowRoll x = new WindowRoll();
        Model y = new Model();
        int houses = 1 + r.nextInt(7);
        int wild = r.nextInt(4) == 0 ? 10 : 60;
        for (int call = 0; call < CALLS; call++) {
            String[] form = CALL_FORMS[r.nextInt(CALL_FORMS.length)].split(" ");
            if (call < 40 && r.nextInt(3) > 0) {
                form = CALL_FORMS[r.nextInt(10)].split(" ");
            }
            if (form[0].equals("house") && y.count(1) >= houses) {
                continue;
            }
            if (form[0].equals("room") && r.nextInt(4) > 0) {
                call += numbers(x, y, r);
            }
            if ((form[0].equals("act") || form[0].equals("beside") || form[0].equals("ask")) && r.nextInt(8) > 0) {
                call += text(x, y, form[0].equals("ask") ? asked(r) : act(r), r);
            }
            Object[] a = new Object[form.length - 1];
            for (int k = 0; k < a.length; k++) {
                a[k] = argument(form[k + 1], y, r, wild);
            }
            if (form[0].equals("room") && y.houseOf((Integer) a[0], 5) >= 6) {
                continue;
            }
            Object got = method(WindowRoll.class, form[0]).invoke(x, a);
            Object due = method(Model.class, form[0]).invoke(y, a);
            String told = "run " + seed + " call " + call + " " + form[0] + Arrays.toString(a);
            C.is(told, told(got), told(due));
        }
    }

    private static long told(Object answer) {
        return answer instanceof Boolean ? ((Boolean) answer ? 1 : 0) : ((Number) answer).longValue();
    }

    /** A row of OPENINGS in a PLACE: as many calls as that took. */
    private static int numbers(WindowRoll x, Model y, Random r) {
        int n = r.nextInt(4);
        int place = r.nextInt(4);
        int width = r.nextInt(4);
        C.is("row", x.row(place, width, n), y.row(place, width, n));
        for (int i = 0; i < n; i++) {
            int panes = 1 + r.nextInt(r.nextBoolean() ? 6 : 30);
            long v = (panes + (r.nextInt(3) == 0 ? 100 : 0)) * (r.nextInt(3) == 0 ? -1 : 1);
            C.is("write", x.write(place, i, v), y.write(place, i, v));
        }
        return n + 1;
    }

    private static int text(WindowRoll x, Model y, String text, Random r) {
        String told = text;
        if (r.nextInt(8) == 0 && !told.isEmpty()) {
            int at = r.nextInt(told.length());
            String put = new String[] {"", "(", ")", ";", " ", "x", "9", "+", "when ", "#", "\n", "not("}[r.nextInt(12)];
            told = told.substring(0, at) + put + told.substring(at + r.nextInt(2));
        }
        told = told.length() > 300 ? told.substring(0, 300) : told;
        x.end(0);
        y.end(0);
        int calls = 2;
        byte[] bytes = told.getBytes(java.nio.charset.StandardCharsets.ISO_8859_1);
        for (int at = 0; at < bytes.length; at += 20) {
            int[] w = new int[5];
            for (int i = 0; i < 20; i++) {
                w[i / 4] = w[i / 4] << 8 | (at + i < bytes.length ? bytes[at + i] & 255 : ' ');
            }
            C.is("feed", x.feed(w[0], w[1], w[2], w[3], w[4]), y.feed(w[0], w[1], w[2], w[3], w[4]));
            calls++;
        }
        C.is("end", x.end(bytes.length), y.end(bytes.length));
        return calls;
    }

    private static Object argument(String kind, Model y, Random r, int wild) {
        if (kind.equals("bool")) {
            return r.nextBoolean();
        }
        if (kind.equals("number")) {
            return r.nextInt(10) == 0 ? r.nextLong() : (long) r.nextInt(r.nextBoolean() ? 20 : 10002);
        }
        if (kind.equals("any")) {
            return r.nextInt();
        }
        if (r.nextInt(wild) == 0) {
            return new int[] {-1, Integer.MIN_VALUE, Integer.MAX_VALUE, 4, 16, 61, 100, 1001}[r.nextInt(8)];
        }
        int houses = Math.max(1, y.count(1));
        int year = y.count(0);
        switch (kind) {
            case "kind": case "street": case "place": case "collector": return r.nextInt(kind.equals("street") ? 2 : 4);
            case "light": return r.nextInt(8);
            case "enough": return r.nextInt(30);
            case "cost": return r.nextInt(r.nextBoolean() ? 10 : 60);
            case "near": return r.nextInt(15);
            case "moves": return r.nextInt(r.nextBoolean() ? 4 : 21);
            case "worth": return r.nextInt(r.nextBoolean() ? 10 : 10001);
            case "families": return 1 + r.nextInt(5);
            case "minutes": return 1 + r.nextInt(r.nextBoolean() ? 8 : 60);
            case "routeminutes": return r.nextInt(r.nextBoolean() ? 30 : 200);
            case "house": return r.nextInt(houses);
            case "rarehouse": return r.nextInt(9 * houses);
            case "rareplace": return r.nextInt(12);
            case "floor": return r.nextInt(6);
            case "opening": return r.nextInt(5);
            case "state": return r.nextInt(3);
            case "year": return r.nextBoolean() ? Math.min(99, year + r.nextInt(4)) : r.nextInt(100);
            case "past": return r.nextInt(year + 1);
            case "now": return r.nextBoolean() ? year : r.nextInt(year + 1);
            case "years": return 1 + r.nextInt(4);
            case "count": return r.nextInt(r.nextInt(4) == 0 ? 1001 : 20);
            case "panes": return 1 + r.nextInt(12);
            case "held": return r.nextInt(Math.max(1, y.count(3)));
            case "gap": return r.nextInt(r.nextBoolean() ? 5 : 1000);
            case "length": return r.nextInt(r.nextBoolean() ? 6 : 61);
            case "small": case "k": return r.nextInt(6);
            default: return r.nextInt(Integer.parseInt(kind.substring(4)));
        }
    }

    private static final String[] ACT_NAMES = {"worth", "families", "street", "rooms", "openings", "year", "count",
        "panes", "kind", "floor", "back", "lattice"};
    private static final String[] ASK_NAMES = {"house", "street", "year", "count", "known", "how", "collector", "worth",
        "tax"};

    private static String act(Random r) {
        StringBuilder s = new StringBuilder();
        int n = r.nextInt(r.nextInt(6) == 0 ? 14 : 6);
        for (int i = 0; i < n; i++) {
            s.append(i == 0 ? "" : ";");
            String[] heads = {"from " + r.nextInt(5) + " pay ", "from " + r.nextInt(8) + " pay ",
                "from " + r.nextInt(5) + " add ", "counts ", "counts ", "part ", "spare", "apart"};
            int k = r.nextInt(heads.length);
            s.append(heads[k]);
            if (k < 6) {
                s.append(k == 5 && r.nextBoolean() ? "" + r.nextInt(200) : sum(ACT_NAMES, r, 2));
            }
            if (k == 6 || r.nextInt(2) == 0) {
                s.append(" when ").append(conds(ACT_NAMES, r, 2));
            }
        }
        return s.toString();
    }

    private static String asked(Random r) {
        String what = new String[] {"number", "sum", "least", "greatest"}[r.nextInt(4)];
        String text = what.equals("number") ? what : what + " " + sum(ASK_NAMES, r, 2);
        text += r.nextBoolean() ? " where " + conds(ASK_NAMES, r, 2) : "";
        return text + (r.nextBoolean() ? " by " + ASK_NAMES[r.nextInt(ASK_NAMES.length)] : "");
    }

    private static String sum(String[] names, Random r, int depth) {
        StringBuilder s = new StringBuilder(factor(names, r, depth));
        for (int i = r.nextInt(3); i > 0; i--) {
            s.append("+-*/".charAt(r.nextInt(4))).append(factor(names, r, depth));
        }
        return s.toString();
    }

    private static String factor(String[] names, Random r, int depth) {
        int k = r.nextInt(depth > 0 ? 9 : 6);
        if (k < 3) {
            return "" + (r.nextInt(8) == 0 ? r.nextInt(10000) : r.nextInt(8));
        }
        if (k < 6) {
            return names[r.nextInt(names.length)];
        }
        if (k == 6) {
            return "(" + sum(names, r, depth - 1) + ")";
        }
        return (k == 7 ? "lesser(" : "greater (") + sum(names, r, depth - 1) + "," + sum(names, r, depth - 1) + ")";
    }

    private static String conds(String[] names, Random r, int depth) {
        StringBuilder s = new StringBuilder(cond(names, r, depth));
        for (int i = r.nextInt(3); i > 0; i--) {
            s.append(r.nextBoolean() ? " or " : " and ").append(cond(names, r, depth));
        }
        return s.toString();
    }

    private static String cond(String[] names, Random r, int depth) {
        if (depth > 0 && r.nextInt(5) == 0) {
            return "not(" + conds(names, r, depth - 1) + ")";
        }
        String name = names[r.nextInt(names.length)];
        return (r.nextBoolean() ? name : sum(names, r, depth - 1)) + "<>=".charAt(r.nextInt(3)) + sum(names, r, 0);
    }
}
