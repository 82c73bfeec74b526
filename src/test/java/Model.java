import java.util.ArrayList;
import java.util.Arrays;
import java.util.HashMap;
import java.util.HashSet;
import java.util.List;
import java.util.Map;
import java.util.Set;
import java.util.TreeMap;
import java.util.TreeSet;

/** All that the document tells, told again as plainly as can be and without a thought of speed or room. */
final class Model {
    private static final class Opening {
        int room;
        int panes;
        int floor;
        int kind;
        boolean back;
        boolean lattice;
        int state = 0;
        int excusedBy = -1;
    }

    private static final class House {
        int street;
        int worth;
        int families;
        int minutes;
        List<Integer> kinds = new ArrayList<>();
        List<Opening> openings = new ArrayList<>();
        Set<Integer> roof = new TreeSet<>();
        boolean down = false;
        long paid = 0;
    }

    private static final class Case {
        int[] facts;
        boolean stands = true;
    }

    private static final class Line {
        int house;
        int year;
        int count;
        int how;
        int collector;
        int known;
    }

    private static final class Row {
        int width;
        long[] numbers;
    }

    private int year = 0;
    private final int[] light = {3, 3, 3, 3};
    private final int[] enough = {12, 12, 12, 12};
    private int bricking = 20;
    private int opening = 30;
    private int near = 5;
    private int moves = 2;
    private final List<House> houses = new ArrayList<>();
    private final TreeMap<Integer, ModelText> acts = new TreeMap<>();
    private final List<Case> cases = new ArrayList<>();
    private final List<Line> lines = new ArrayList<>();
    private final Set<String> walked = new HashSet<>();
    private final Row[] rows = new Row[4];
    private final StringBuilder tape = new StringBuilder();
    private int fault = -1;
    private List<Integer> plan = null;
    private int planHouse = -1;
    private boolean fresh = false;
    private List<long[]> answers = new ArrayList<>();
    private int[] matched = new int[0];

    private static boolean in(long v, long least, long greatest) {
        return least <= v && v <= greatest;
    }

    private House of(int house) {
        return in(house, 0, houses.size() - 1) ? houses.get(house) : null;
    }

    private House standing(int house) {
        House h = of(house);
        return h == null || h.down ? null : h;
    }

    private Opening of(House h, int opening) {
        return h != null && in(opening, 0, h.openings.size() - 1) ? h.openings.get(opening) : null;
    }

    public int light(int kind, int light, int enough) {
        if (!in(kind, 0, 3) || !in(light, 0, 50) || !in(enough, 0, 200)) {
            return -2;
        }
        this.light[kind] = light;
        this.enough[kind] = enough;
        fresh = false;
        return 0;
    }

    public int terms(int bricking, int opening, int near, int moves) {
        if (!in(bricking, 0, 1000) || !in(opening, 0, 1000) || !in(near, 0, 60) || !in(moves, 0, 20)) {
            return -2;
        }
        this.bricking = bricking;
        this.opening = opening;
        this.near = near;
        this.moves = moves;
        fresh = false;
        return 0;
    }

    public int house(int street, int worth, int families, int minutes) {
        if (!in(street, 0, 3) || !in(worth, 0, 10000) || !in(families, 1, 9) || !in(minutes, 1, 60)) {
            return -2;
        }
        if (houses.size() == 16) {
            return -3;
        }
        House h = new House();
        h.street = street;
        h.worth = worth;
        h.families = families;
        h.minutes = minutes;
        h.roof.add(houses.size());
        houses.add(h);
        fresh = false;
        return houses.size() - 1;
    }

    public int room(int house, int kind, int floor, int place) {
        House h = standing(house);
        if (h == null || !in(kind, 0, 3) || !in(floor, 0, 5) || !in(place, 0, 3)) {
            return -2;
        }
        if (rows[place] == null) {
            return -5;
        }
        List<Opening> more = new ArrayList<>();
        for (long number : rows[place].numbers) {
            Opening o = new Opening();
            o.room = h.kinds.size();
            o.kind = kind;
            o.floor = floor;
            o.back = number < 0;
            boolean told = false;
            for (int panes = 1; panes <= 30; panes++) {
                for (int lattice = 0; lattice < 2; lattice++) {
                    if (number == panes + 100 * lattice || number == -panes - 100 * lattice) {
                        o.panes = panes;
                        o.lattice = lattice == 1;
                        told = true;
                    }
                }
            }
            if (!told) {
                return -4;
            }
            more.add(o);
        }
        if (h.kinds.size() == 6 || h.openings.size() + more.size() > 10) {
            return -3;
        }
        h.openings.addAll(more);
        h.kinds.add(kind);
        fresh = false;
        return h.kinds.size() - 1;
    }

    public int make(int house, int opening, int state) {
        Opening o = of(standing(house), opening);
        if (o == null || !in(state, 0, 2)) {
            return -2;
        }
        int was = o.state;
        o.state = state;
        fresh = false;
        return was;
    }

    public int worth(int house, int worth, int families) {
        House h = of(house);
        if (h == null || !in(worth, 0, 10000) || !in(families, 1, 9)) {
            return -2;
        }
        h.worth = worth;
        h.families = families;
        fresh = false;
        return 0;
    }

    private void alone(int house) {
        houses.get(house).roof.remove(house);
        houses.get(house).roof = new TreeSet<>(Set.of(house));
    }

    public int roof(int a, int b) {
        House first = standing(a);
        House other = standing(b);
        if (first == null || other == null || a == b) {
            return -2;
        }
        fresh = false;
        if (first.roof.contains(b)) {
            alone(a);
            return 0;
        }
        first.roof.addAll(other.roof);
        for (int h : first.roof) {
            houses.get(h).roof = first.roof;
        }
        return 1;
    }

    public boolean down(int house) {
        if (standing(house) == null) {
            return false;
        }
        alone(house);
        houses.get(house).down = true;
        fresh = false;
        return true;
    }

    public int feed(int a, int b, int c, int d, int e) {
        if (tape.length() + 20 > 300) {
            return -1;
        }
        for (int n : new int[] {a, b, c, d, e}) {
            for (int k = 3; k >= 0; k--) {
                tape.append((char) (n >>> 8 * k & 255));
            }
        }
        return tape.length();
    }

    public int end(int n) {
        if (!in(n, 0, tape.length())) {
            return -1;
        }
        tape.setLength(n);
        return n;
    }

    private ModelText read(boolean asked) {
        String text = tape.toString();
        tape.setLength(0);
        ModelText read = new ModelText(text, asked);
        fault = read.fault;
        return fault == -1 ? read : null;
    }

    public int act(int from) {
        if (!in(from, 0, 99) || acts.size() == 12) {
            return -2;
        }
        ModelText act = read(false);
        if (act == null) {
            return -4;
        }
        acts.put(from, act);
        fresh = false;
        return act.rules.size();
    }

    public int fault() {
        return fault;
    }

    private ModelText actOf(int y) {
        Map.Entry<Integer, ModelText> e = acts.floorEntry(y);
        return e == null ? new ModelText("", false) : e.getValue();
    }

    private static Map<String, Long> names(House h, int y) {
        Map<String, Long> told = new HashMap<>();
        told.put("worth", (long) h.worth);
        told.put("families", (long) h.families);
        told.put("street", (long) h.street);
        told.put("rooms", (long) h.kinds.size());
        told.put("openings", (long) h.openings.size());
        told.put("year", (long) y);
        return told;
    }

    private static int weightOf(ModelText act, House h, Opening o, int y) {
        if (o.excusedBy != -1) {
            return 0;
        }
        Map<String, Long> told = names(h, y);
        told.put("panes", (long) o.panes);
        told.put("kind", (long) o.kind);
        told.put("floor", (long) o.floor);
        told.put("back", o.back ? 1L : 0L);
        told.put("lattice", o.lattice ? 1L : 0L);
        for (ModelText.Rule r : act.rules) {
            if (r.kind.equals("counts") && r.conds.hold(told)) {
                return (int) Math.max(0, Math.min(9, r.sum.of(told)));
            }
        }
        return 1;
    }

    private interface Which {
        boolean has(Opening o);
    }

    private static final Which OPEN = o -> o.state == 0;
    private static final Which SEEN = o -> o.state == 0 && !o.back;
    private static final Which USED = o -> o.state == 0 || o.state == 2;

    private static int countOf(ModelText act, House h, int y, Which which) {
        int count = 0;
        for (Opening o : h.openings) {
            count += which.has(o) ? weightOf(act, h, o, y) : 0;
        }
        return count;
    }

    private static boolean some(ModelText act, String kind, House h, int y) {
        for (ModelText.Rule r : act.rules) {
            if (r.kind.equals(kind) && r.conds.hold(names(h, y))) {
                return true;
            }
        }
        return false;
    }

    private static long taxOf(ModelText act, House h, int y, int c) {
        if (c == 0 || some(act, "spare", h, y)) {
            return 0;
        }
        Map<String, Long> told = names(h, y);
        told.put("count", (long) c);
        ModelText.Rule pay = null;
        long all = 0;
        long part = 100;
        for (ModelText.Rule r : act.rules) {
            if (r.kind.equals("counts") || r.kind.equals("spare") || r.kind.equals("apart") || !r.conds.hold(told)) {
                continue;
            }
            if (r.kind.equals("part")) {
                part = r.sum.of(told);
            } else if (r.n <= c && r.kind.equals("add")) {
                all += r.sum.of(told) * (c - r.n + 1);
            } else if (r.n <= c && (pay == null || r.n >= pay.n)) {
                pay = r;
            }
        }
        all += pay == null ? 0 : pay.sum.of(told) * c;
        return Math.max(0, Math.min(1000000000L, all * part / 100));
    }

    public int weight(int house, int opening, int y) {
        Opening o = of(of(house), opening);
        return o == null || !in(y, 0, 99) ? -2 : weightOf(actOf(y), of(house), o, y);
    }

    public int counted(int house, int y, int what) {
        if (of(house) == null || !in(y, 0, 99) || !in(what, 0, 2)) {
            return -2;
        }
        return countOf(actOf(y), of(house), y, what == 0 ? OPEN : what == 1 ? SEEN : USED);
    }

    public long tax(int house, int y, int count) {
        return of(house) == null || !in(y, 0, 99) || !in(count, 0, 1000) ? -2 : taxOf(actOf(y), of(house), y, count);
    }

    private interface Counts {
        int of(int house);
    }

    private long pays(int house, Counts counts) {
        House h = of(house);
        if (h.down) {
            return 0;
        }
        int least = ((TreeSet<Integer>) h.roof).first();
        if (some(actOf(year), "apart", of(least), year)) {
            return taxOf(actOf(year), h, year, counts.of(house));
        }
        int all = 0;
        for (int other : h.roof) {
            all += counts.of(other);
        }
        return house == least ? taxOf(actOf(year), h, year, all) : 0;
    }

    public long due(int house) {
        return of(house) == null ? -2 : pays(house, h -> countOf(actOf(year), of(h), year, OPEN));
    }

    private int lightOf(House h, int set) {
        int all = 0;
        for (int r = 0; r < h.kinds.size(); r++) {
            int panes = 0;
            for (int o = 0; o < h.openings.size(); o++) {
                panes += h.openings.get(o).room == r && (set >> o & 1) == 1 ? h.openings.get(o).panes : 0;
            }
            all += light[h.kinds.get(r)] * Math.min(enough[h.kinds.get(r)], panes);
        }
        return all;
    }

    private int openSet(House h) {
        int set = 0;
        for (int o = 0; o < h.openings.size(); o++) {
            set |= h.openings.get(o).state == 0 ? 1 << o : 0;
        }
        return set;
    }

    /** The worth of the best from each set and YEAR on; chosen, the sets themselves. */
    private long best(House h, int years, ModelText beside, List<Integer> chosen) {
        int sets = 1 << h.openings.size();
        int boarded = 0;
        for (int o = 0; o < h.openings.size(); o++) {
            boarded |= h.openings.get(o).state == 2 ? 1 << o : 0;
        }
        long[][] brings = new long[years][sets];
        long[][] most = new long[years + 1][sets];
        for (int k = years - 1; k >= 0; k--) {
            ModelText act = beside == null ? actOf(year + k) : beside;
            for (int s = 0; s < sets; s++) {
                int set = s;
                int count = countOf(act, h, year + k, o -> (set >> h.openings.indexOf(o) & 1) == 1);
                brings[k][s] = lightOf(h, s) - taxOf(act, h, year + k, count) + most[k + 1][s];
            }
            for (int before = 0; before < sets; before++) {
                most[k][before] = Long.MIN_VALUE;
                for (int s = 0; s < sets; s++) {
                    if ((s & boarded) == 0) {
                        most[k][before] = Math.max(most[k][before], brings[k][s] - cost(before, s));
                    }
                }
            }
        }
        int at = openSet(h);
        long worth = most[0][at];
        for (int k = 0; k < years; k++) {
            int next = -1;
            for (int s = 0; s < sets; s++) {
                boolean good = (s & boarded) == 0 && brings[k][s] - cost(at, s) == most[k][at];
                if (good && (next == -1 || Integer.bitCount(s ^ at) < Integer.bitCount(next ^ at))) {
                    next = s;
                }
            }
            chosen.add(next);
            at = next;
        }
        return worth;
    }

    private long cost(int before, int set) {
        return (long) bricking * Integer.bitCount(before & ~set) + (long) opening * Integer.bitCount(set & ~before);
    }

    public long plan(int house, int years) {
        if (standing(house) == null || !in(years, 1, 10)) {
            return -1000000;
        }
        plan = new ArrayList<>();
        planHouse = house;
        fresh = true;
        return best(of(house), years, null, plan);
    }

    public int planned(int k) {
        return plan == null || !in(k, 0, plan.size() - 1) ? -1 : plan.get(k);
    }

    public int owner() {
        if (plan == null || !fresh) {
            return -1;
        }
        fresh = false;
        int changed = 0;
        List<Opening> all = of(planHouse).openings;
        for (int o = 0; o < all.size(); o++) {
            int state = (plan.get(0) >> o & 1) == 1 ? 0 : 1;
            if (all.get(o).state != 2 && all.get(o).state != state) {
                all.get(o).state = state;
                changed++;
            }
        }
        return changed;
    }

    private int put(int kind, int panes, int floor, boolean back, boolean lattice, boolean is, int leans) {
        Case c = new Case();
        c.facts = new int[] {kind, panes, floor, back ? 1 : 0, lattice ? 1 : 0, is ? 1 : 0, leans};
        cases.add(c);
        fresh = false;
        return cases.size() - 1;
    }

    public int held(int kind, int panes, int floor, boolean back, boolean lattice, boolean is) {
        if (!in(kind, 0, 3) || !in(panes, 1, 30) || !in(floor, 0, 5)) {
            return -2;
        }
        return cases.size() == 60 ? -3 : put(kind, panes, floor, back, lattice, is, -1);
    }

    private int nearestOf(Opening o) {
        int best = -1;
        int least = near;
        for (int c = 0; c < cases.size(); c++) {
            int[] f = cases.get(c).facts;
            int away = (f[0] != o.kind ? 4 : 0) + Math.abs(f[1] - o.panes) + 2 * Math.abs(f[2] - o.floor)
                + (f[3] == 1 != o.back ? 3 : 0) + (f[4] == 1 != o.lattice ? 3 : 0);
            if (cases.get(c).stands && away <= least) {
                least = away;
                best = c;
            }
        }
        return best;
    }

    public int nearest(int house, int opening) {
        Opening o = of(of(house), opening);
        return o == null ? -2 : nearestOf(o);
    }

    public int appeal(int house, int opening) {
        Opening o = of(standing(house), opening);
        if (o == null) {
            return -2;
        }
        if (o.excusedBy != -1) {
            return -7;
        }
        if (cases.size() == 60) {
            return -3;
        }
        int like = nearestOf(o);
        boolean is = like == -1 ? weightOf(actOf(year), of(house), o, year) > 0 : cases.get(like).facts[5] == 1;
        int told = put(o.kind, o.panes, o.floor, o.back, o.lattice, is, like);
        o.excusedBy = is ? -1 : told;
        return is ? 0 : 1;
    }

    public int overrule(int held) {
        if (!in(held, 0, cases.size() - 1) || !cases.get(held).stands) {
            return -2;
        }
        fresh = false;
        return fall(held);
    }

    private int fall(int held) {
        cases.get(held).stands = false;
        int fell = 1;
        for (House h : houses) {
            for (Opening o : h.openings) {
                o.excusedBy = o.excusedBy == held ? -1 : o.excusedBy;
            }
        }
        for (int c = 0; c < cases.size(); c++) {
            fell += cases.get(c).stands && cases.get(c).facts[6] == held ? fall(c) : 0;
        }
        return fell;
    }

    public int heldOf(int held, int what) {
        if (!in(held, 0, cases.size() - 1) || !in(what, 0, 7)) {
            return -2;
        }
        return what == 7 ? (cases.get(held).stands ? 1 : 0) : cases.get(held).facts[what];
    }

    private void line(int house, int y, int count, int how, int collector) {
        Line l = new Line();
        l.house = house;
        l.year = y;
        l.count = count;
        l.how = how;
        l.collector = collector;
        l.known = year;
        lines.add(l);
    }

    private Line tells(int house, int y, int known) {
        Line told = null;
        for (Line l : lines) {
            told = l.house == house && l.year == y && l.known <= known ? l : told;
        }
        return told;
    }

    public int walk(int collector, int street) {
        if (!in(collector, 0, 3) || !in(street, 0, 3)) {
            return -2;
        }
        String key = collector + " " + street + " " + year;
        if (walked.contains(key)) {
            return -9;
        }
        List<Integer> there = new ArrayList<>();
        for (int h = 0; h < houses.size(); h++) {
            if (of(h).street == street && !of(h).down) {
                there.add(h);
            }
        }
        if (lines.size() + there.size() > 1200) {
            return -3;
        }
        for (int h : there) {
            line(h, year, countOf(actOf(year), of(h), year, SEEN), 0, collector);
        }
        walked.add(key);
        return there.size();
    }

    public int look(int collector, int house) {
        if (!in(collector, 0, 3) || standing(house) == null) {
            return -1000000;
        }
        if (lines.size() == 1200) {
            return -1000003;
        }
        Line before = tells(house, year, year);
        int count = countOf(actOf(year), of(house), year, USED);
        line(house, year, count, 1, collector);
        return before == null ? 0 : count - before.count;
    }

    public int route(int street, int minutes) {
        if (!in(street, 0, 3) || !in(minutes, 0, 500)) {
            return -2;
        }
        long bestGain = -1;
        int bestTime = 0;
        int best = 0;
        for (int set = 0; set < 1 << houses.size(); set++) {
            long gain = 0;
            int time = 0;
            for (int h = 0; h < houses.size() && time <= minutes; h++) {
                if ((set >> h & 1) == 1) {
                    boolean there = of(h).street == street && !of(h).down;
                    time += there ? of(h).minutes : 1000;
                    gain += there ? gain(h) : 0;
                }
            }
            if (time <= minutes && (gain > bestGain || gain == bestGain && time < bestTime)) {
                bestGain = gain;
                bestTime = time;
                best = set;
            }
        }
        return best;
    }

    private long gain(int house) {
        ModelText act = actOf(year);
        House h = of(house);
        return Math.max(0, taxOf(act, h, year, countOf(act, h, year, USED))
            - taxOf(act, h, year, countOf(act, h, year, SEEN)));
    }

    public int late(int house, int y, int count) {
        if (of(house) == null || !in(y, 0, year - 1) || !in(count, 0, 1000)) {
            return -2;
        }
        if (lines.size() == 1200) {
            return -3;
        }
        line(house, y, count, 2, -1);
        return 0;
    }

    private int onRoll(int house) {
        for (int y = year; y >= 0; y--) {
            if (tells(house, y, year) != null) {
                return tells(house, y, year).count;
            }
        }
        return 0;
    }

    public long go() {
        if (year == 99) {
            return -9;
        }
        long all = 0;
        for (int h = 0; h < houses.size(); h++) {
            long pays = pays(h, this::onRoll);
            of(h).paid += pays;
            all += pays;
        }
        year++;
        fresh = false;
        return all;
    }

    public int roll(int house, int y, int known, int what) {
        Line l = in(known, 0, year) && in(what, 0, 3) ? tells(house, y, known) : null;
        return l == null ? -1 : what == 0 ? l.count : what == 1 ? l.how : what == 2 ? l.collector : l.known;
    }

    public int span(int house, int y, int known, int what) {
        if (of(house) == null || !in(y, 0, 99) || !in(known, 0, year) || !in(what, 0, 1)) {
            return -1;
        }
        int[] least = new int[100];
        int[] greatest = new int[100];
        boolean some = false;
        for (int k = 0; k < 100; k++) {
            Line l = tells(house, k, known);
            some |= l != null;
            least[k] = l == null ? 0 : l.count;
            greatest[k] = l == null ? 1000 : l.count;
        }
        for (int k = 1; k < 100; k++) {
            least[k] = Math.max(least[k], least[k - 1] - moves);
            greatest[k] = Math.min(greatest[k], greatest[k - 1] + moves);
        }
        for (int k = 98; k >= 0; k--) {
            least[k] = Math.max(least[k], least[k + 1] - moves);
            greatest[k] = Math.min(greatest[k], greatest[k + 1] + moves);
        }
        for (int k = 0; k < 100; k++) {
            if (least[k] > greatest[k]) {
                return -7;
            }
        }
        return !some ? -1 : what == 0 ? least[y] : greatest[y];
    }

    public int habit(int a, int b, int what) {
        if (!in(a, 0, 3) || !in(b, 0, 3) || a == b || !in(what, 0, 3)) {
            return -1000000;
        }
        List<Integer> more = new ArrayList<>();
        for (Line l : lines) {
            for (Line m : lines) {
                if (l.how == 0 && m.how == 0 && l.collector == a && m.collector == b && l.house == m.house
                    && l.year == m.year) {
                    more.add(l.count - m.count);
                }
            }
        }
        switch (what) {
            case 0: return more.stream().mapToInt(i -> i).sum();
            case 1: return more.size();
            case 2: return more.stream().mapToInt(i -> i).min().orElse(0);
            default: return more.stream().mapToInt(i -> i).max().orElse(0);
        }
    }

    public int ask(int known) {
        if (!in(known, 0, year)) {
            return -2;
        }
        ModelText asked = read(true);
        if (asked == null) {
            return -4;
        }
        ModelText.Rule what = asked.rules.get(0);
        TreeMap<Long, List<Long>> found = new TreeMap<>();
        for (int h = 0; h < houses.size(); h++) {
            for (int y = 0; y < 100; y++) {
                Line l = tells(h, y, known);
                if (l == null) {
                    continue;
                }
                Map<String, Long> told = new HashMap<>();
                told.put("house", (long) h);
                told.put("street", (long) of(h).street);
                told.put("year", (long) y);
                told.put("count", (long) l.count);
                told.put("known", (long) l.known);
                told.put("how", (long) l.how);
                told.put("collector", (long) l.collector);
                told.put("worth", (long) of(h).worth);
                told.put("tax", taxOf(actOf(y), of(h), y, l.count));
                if (what.conds.hold(told)) {
                    long key = asked.by == null ? 0 : told.get(asked.by);
                    found.computeIfAbsent(key, k -> new ArrayList<>()).add(what.sum.of(told));
                }
            }
        }
        answers = new ArrayList<>();
        for (Map.Entry<Long, List<Long>> e : found.entrySet()) {
            if (answers.size() < 200) {
                answers.add(new long[] {e.getKey(), value(what.kind, e.getValue()), e.getValue().size()});
            }
        }
        return answers.size();
    }

    private static long value(String what, List<Long> all) {
        switch (what) {
            case "number": return all.size();
            case "sum": return all.stream().mapToLong(v -> v).sum();
            case "least": return all.stream().mapToLong(v -> v).min().getAsLong();
            default: return all.stream().mapToLong(v -> v).max().getAsLong();
        }
    }

    public long answer(int i, int what) {
        return in(i, 0, answers.size() - 1) && in(what, 0, 2) ? answers.get(i)[what] : 0;
    }

    public int match(int first, int second, int gap) {
        if (!in(first, 0, 3) || !in(second, 0, 3) || !in(gap, 0, 1000)) {
            return -2;
        }
        if (rows[first] == null || rows[second] == null) {
            return -5;
        }
        long[] a = rows[first].numbers;
        long[] b = rows[second].numbers;
        for (long[] row : new long[][] {a, b}) {
            for (long n : row) {
                if (!in(n, 0, 10000)) {
                    return -4;
                }
            }
        }
        long[][] rest = new long[a.length + 2][b.length + 2];
        for (long[] r : rest) {
            Arrays.fill(r, 1L << 40);
        }
        rest[a.length][b.length] = 0;
        for (int i = a.length; i >= 0; i--) {
            for (int j = b.length; j >= 0; j--) {
                long pair = i < a.length && j < b.length ? Math.abs(a[i] - b[j]) + rest[i + 1][j + 1] : 1L << 40;
                rest[i][j] = Math.min(rest[i][j], Math.min(pair, gap + Math.min(rest[i + 1][j], rest[i][j + 1])));
            }
        }
        matched = new int[a.length];
        Arrays.fill(matched, -1);
        int i = 0;
        int j = 0;
        while (i < a.length || j < b.length) {
            if (i < a.length && j < b.length && rest[i][j] == Math.abs(a[i] - b[j]) + rest[i + 1][j + 1]) {
                matched[i++] = j++;
            } else if (i < a.length && rest[i][j] == gap + rest[i + 1][j]) {
                i++;
            } else {
                j++;
            }
        }
        return (int) rest[0][0];
    }

    public int matched(int i) {
        return in(i, 0, matched.length - 1) ? matched[i] : -1;
    }

    public long beside(int years, int what) {
        if (!in(years, 1, 10) || !in(what, 0, 4)) {
            return -2;
        }
        ModelText act = read(false);
        if (act == null) {
            return -4;
        }
        long all = 0;
        for (House h : houses) {
            if (h.down) {
                continue;
            }
            List<Integer> sets = new ArrayList<>();
            if (what == 4) {
                for (int k = 0; k < years; k++) {
                    sets.add(openSet(h));
                }
            } else {
                best(h, years, act, sets);
            }
            for (int k = 0; k < years && what != 2 && what != 3; k++) {
                int set = sets.get(k);
                int count = countOf(act, h, year + k, o -> (set >> h.openings.indexOf(o) & 1) == 1);
                all += k == 0 || what != 0 ? taxOf(act, h, year + k, count) : 0;
            }
            all += what == 2 ? Integer.bitCount(sets.get(years - 1)) : 0;
            all += what == 3 ? lightOf(h, sets.get(years - 1)) : 0;
        }
        return all;
    }

    public int heap(int count) {
        int n = 0;
        for (House h : houses) {
            n += !h.down && countOf(actOf(year), h, year, OPEN) == count ? 1 : 0;
        }
        return count < 0 ? -1 : n;
    }

    public int houseOf(int house, int what) {
        House h = of(house);
        if (h == null || !in(what, 0, 9)) {
            return -2;
        }
        return new int[] {h.street, h.worth, h.families, h.minutes, h.kinds.size(), h.openings.size(),
            Integer.bitCount(openSet(h)), lightOf(h, openSet(h)), ((TreeSet<Integer>) h.roof).first(),
            h.down ? 1 : 0}[what];
    }

    public int opening(int house, int opening, int what) {
        Opening o = of(of(house), opening);
        if (o == null || !in(what, 0, 7)) {
            return -2;
        }
        return new int[] {o.room, o.panes, o.floor, o.kind, o.back ? 1 : 0, o.lattice ? 1 : 0, o.state,
            o.excusedBy}[what];
    }

    public long paid(int house) {
        return of(house) == null ? -2 : of(house).paid;
    }

    public int count(int what) {
        int excused = 0;
        for (House h : houses) {
            for (Opening o : h.openings) {
                excused += o.excusedBy == -1 ? 0 : 1;
            }
        }
        int stand = 0;
        for (Case c : cases) {
            stand += c.stands ? 1 : 0;
        }
        int taken = 0;
        for (Row r : rows) {
            taken += r == null ? 0 : 1;
        }
        return !in(what, 0, 9) ? -1 : new int[] {year, houses.size(), acts.size(), cases.size(), stand, lines.size(),
            tape.length(), actOf(year).rules.size(), excused, taken}[what];
    }

    public int row(int place, int width, int n) {
        if (!in(place, 0, 3) || !in(width, 0, 3) || n > 60) {
            return -2;
        }
        if (n < 0) {
            return -3;
        }
        rows[place] = new Row();
        rows[place].width = width;
        rows[place].numbers = new long[n];
        return 0;
    }

    public boolean tear(int place) {
        boolean had = in(place, 0, 3) && rows[place] != null;
        if (had) {
            rows[place] = null;
        }
        return had;
    }

    public int write(int place, int i, long v) {
        if (!in(place, 0, 3)) {
            return -2;
        }
        Row r = rows[place];
        if (r == null) {
            return -5;
        }
        if (!in(i, 0, r.numbers.length - 1)) {
            return -6;
        }
        int cut = 64 - (8 << r.width);
        r.numbers[i] = v << cut >> cut;
        return 0;
    }

    public int paste(int place, int i, int to, int k, int n) {
        if (!in(place, 0, 3) || !in(to, 0, 3)) {
            return -2;
        }
        Row from = rows[place];
        Row other = rows[to];
        if (from == null || other == null) {
            return -5;
        }
        if (from.width != other.width) {
            return -7;
        }
        if (i < 0 || k < 0 || n < 0 || (long) i + n > from.numbers.length || (long) k + n > other.numbers.length) {
            return -6;
        }
        long[] taken = Arrays.copyOfRange(from.numbers, i, i + n);
        System.arraycopy(taken, 0, other.numbers, k, n);
        return 0;
    }
}
