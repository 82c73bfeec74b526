import java.util.Arrays;

/** A tax on windows through a century: houses, acts, owners, courts, collectors and their rolls. */
public final class WindowRoll {
    public static final int NONE = -1;

    private static final int NOT_AS_TOLD = -2;
    private static final int FULL = -3;
    private static final int FAULTY = -4;
    private static final int NOTHING = -5;
    private static final int BEYOND = -6;
    private static final int AGAINST = -7;
    private static final int ALREADY = -9;
    /** Where small numbers below 0 are answers too, refusals lie far below them. */
    private static final int FAR_REFUSED = -1000000;
    private static final int FAR_FULL = -1000003;

    private static final int MOST_HOUSES = 16;
    private static final int MOST_ROOMS = 6;
    private static final int MOST_OPENINGS = 10;
    private static final int LAST_YEAR = 99;
    private static final int LAST_KIND = 3;
    private static final int LAST_STREET = 3;
    private static final int LAST_COLLECTOR = 3;
    private static final int LAST_FLOOR = 5;
    private static final int LAST_PLACE = 3;
    private static final int MOST_PANES = 30;
    private static final int MOST_COUNT = 1000;
    private static final int MOST_PLANNED = 10;
    private static final int MOST_MINUTES = 500;

    private static final int OPEN = 0;
    private static final int BRICKED = 1;
    private static final int BOARDED = 2;

    private final House[] houses = new House[MOST_HOUSES];
    private int houseCount = 0;
    private int nextRoof = 0;
    private int year = 0;
    private int moves = 2;
    private int lastFault = NONE;
    private final Reader reader = new Reader();
    private final Law law = new Law();
    private final Court court = new Court();
    private final Lines lines = new Lines();
    private final Planner planner = new Planner(law);
    private final Answers answers = new Answers();
    private final Rows rows = new Rows();
    private final int[] counts = new int[MOST_HOUSES];
    private long[] routeGain = null;
    private int[] routeSet = null;

    public WindowRoll() {
    }

    public int light(int kind, int light, int enough) {
        if (!within(kind, 0, LAST_KIND) || !within(light, 0, 50) || !within(enough, 0, 200)) {
            return NOT_AS_TOLD;
        }
        planner.lightOf[kind] = light;
        planner.enoughOf[kind] = enough;
        planner.fresh = false;
        return 0;
    }

    public int terms(int bricking, int opening, int near, int moves) {
        if (!within(bricking, 0, 1000) || !within(opening, 0, 1000)
                || !within(near, 0, 60) || !within(moves, 0, 20)) {
            return NOT_AS_TOLD;
        }
        planner.bricking = bricking;
        planner.reopening = opening;
        court.near = near;
        this.moves = moves;
        planner.fresh = false;
        return 0;
    }

    public int house(int street, int worth, int families, int minutes) {
        if (!within(street, 0, LAST_STREET) || !isWorth(worth)
                || !isFamilies(families) || !within(minutes, 1, 60)) {
            return NOT_AS_TOLD;
        }
        if (houseCount >= MOST_HOUSES) {
            return FULL;
        }
        houses[houseCount] = new House(street, worth, families, minutes, nextRoof++);
        planner.fresh = false;
        return houseCount++;
    }

    public int room(int house, int kind, int floor, int place) {
        if (!stands(house) || !within(kind, 0, LAST_KIND)
                || !within(floor, 0, LAST_FLOOR) || !isPlace(place)) {
            return NOT_AS_TOLD;
        }
        if (!rows.has(place)) {
            return NOTHING;
        }
        if (!rows.tellsOpenings(place)) {
            return FAULTY;
        }
        House h = houses[house];
        int more = rows.length[place];
        if (h.rooms >= MOST_ROOMS || h.openings + more > MOST_OPENINGS) {
            return FULL;
        }
        for (int i = 0; i < more; i++) {
            h.addOpening(kind, floor, (int) rows.numbers[place][i]);
        }
        planner.fresh = false;
        return h.addRoom(kind);
    }

    public int make(int house, int opening, int state) {
        if (!stands(house) || !hasOpening(house, opening) || !within(state, OPEN, BOARDED)) {
            return NOT_AS_TOLD;
        }
        Opening o = houses[house].all[opening];
        int was = o.state;
        o.state = state;
        planner.fresh = false;
        return was;
    }

    public int worth(int house, int worth, int families) {
        if (!exists(house) || !isWorth(worth) || !isFamilies(families)) {
            return NOT_AS_TOLD;
        }
        houses[house].worth = worth;
        houses[house].families = families;
        planner.fresh = false;
        return 0;
    }

    public int roof(int a, int b) {
        if (!stands(a) || !stands(b) || a == b) {
            return NOT_AS_TOLD;
        }
        planner.fresh = false;
        int with = houses[a].roof;
        int other = houses[b].roof;
        if (with == other) {
            houses[a].roof = nextRoof++;
            return 0;
        }
        for (int h = 0; h < houseCount; h++) {
            if (houses[h].roof == other) {
                houses[h].roof = with;
            }
        }
        return 1;
    }

    public boolean down(int house) {
        if (!stands(house)) {
            return false;
        }
        houses[house].isDown = true;
        houses[house].roof = nextRoof++;
        planner.fresh = false;
        return true;
    }

    public int feed(int a, int b, int c, int d, int e) {
        if (!reader.hasRoom(20)) {
            return NONE;
        }
        reader.put(a);
        reader.put(b);
        reader.put(c);
        reader.put(d);
        reader.put(e);
        return reader.length;
    }

    public int end(int n) {
        if (!within(n, 0, reader.length)) {
            return NONE;
        }
        reader.length = n;
        return n;
    }

    public int act(int from) {
        if (!isYear(from) || law.isFull()) {
            return NOT_AS_TOLD;
        }
        lastFault = reader.readAct(law.spare);
        if (lastFault != NONE) {
            return FAULTY;
        }
        planner.fresh = false;
        return law.enactSpare(from);
    }

    public int fault() {
        return lastFault;
    }

    public int weight(int house, int opening, int year) {
        if (!hasOpening(house, opening) || !isYear(year)) {
            return NOT_AS_TOLD;
        }
        House h = houses[house];
        return law.weigh(law.actOf(year), h, h.all[opening], year);
    }

    public int counted(int house, int year, int what) {
        if (!exists(house) || !isYear(year) || !within(what, House.OPEN_ONES, House.USED_ONES)) {
            return NOT_AS_TOLD;
        }
        return law.countOf(law.actOf(year), houses[house], year, what);
    }

    public long tax(int house, int year, int count) {
        if (!exists(house) || !isYear(year) || !within(count, 0, MOST_COUNT)) {
            return NOT_AS_TOLD;
        }
        return law.taxOf(law.actOf(year), houses[house], year, count);
    }

    public long due(int house) {
        if (!exists(house)) {
            return NOT_AS_TOLD;
        }
        Text act = law.actOf(year);
        for (int h = 0; h < houseCount; h++) {
            counts[h] = law.countOf(act, houses[h], year, House.OPEN_ONES);
        }
        return payment(act, house);
    }

    public long plan(int house, int years) {
        if (!stands(house) || !within(years, 1, MOST_PLANNED)) {
            return FAR_REFUSED;
        }
        long worth = planner.find(houses[house], year, years, null);
        planner.keep(houses[house], years);
        return worth;
    }

    public int planned(int k) {
        return within(k, 0, planner.keptYears - 1) ? planner.keptSets[k] : NONE;
    }

    public int owner() {
        if (!planner.fresh || planner.keptHouse == null) {
            return NONE;
        }
        planner.fresh = false;
        return planner.keptHouse.openOnly(planner.keptSets[0]);
    }

    public int held(int kind, int panes, int floor, boolean back, boolean lattice, boolean is) {
        if (!within(kind, 0, LAST_KIND) || !within(panes, 1, MOST_PANES) || !within(floor, 0, LAST_FLOOR)) {
            return NOT_AS_TOLD;
        }
        if (court.isFull()) {
            return FULL;
        }
        planner.fresh = false;
        return court.hold(new Opening(0, kind, floor, panes, back, lattice), is, NONE);
    }

    public int nearest(int house, int opening) {
        if (!hasOpening(house, opening)) {
            return NOT_AS_TOLD;
        }
        return court.nearestTo(houses[house].all[opening]);
    }

    public int appeal(int house, int opening) {
        if (!stands(house) || !hasOpening(house, opening)) {
            return NOT_AS_TOLD;
        }
        House h = houses[house];
        Opening o = h.all[opening];
        if (o.excusedBy != NONE) {
            return AGAINST;
        }
        if (court.isFull()) {
            return FULL;
        }
        int like = court.nearestTo(o);
        boolean is = like == NONE ? law.weigh(law.actOf(year), h, o, year) > 0 : court.saysWindow(like);
        int told = court.hold(o, is, like);
        planner.fresh = false;
        if (is) {
            return 0;
        }
        o.excusedBy = told;
        return 1;
    }

    public int overrule(int held) {
        if (!within(held, 0, court.cases - 1) || !court.isStanding(held)) {
            return NOT_AS_TOLD;
        }
        int fallen = court.fell(held);
        for (int h = 0; h < houseCount; h++) {
            releaseFallen(houses[h]);
        }
        planner.fresh = false;
        return fallen;
    }

    public int heldOf(int held, int what) {
        if (!within(held, 0, court.cases - 1) || !within(what, 0, Court.FACTS - 1)) {
            return NOT_AS_TOLD;
        }
        return court.fact[held * Court.FACTS + what];
    }

    public int walk(int collector, int street) {
        if (!within(collector, 0, LAST_COLLECTOR) || !within(street, 0, LAST_STREET)) {
            return NOT_AS_TOLD;
        }
        if (lines.hasWalked(collector, street, year)) {
            return ALREADY;
        }
        int walked = 0;
        for (int h = 0; h < houseCount; h++) {
            walked += isIn(h, street) ? 1 : 0;
        }
        if (!lines.hasRoom(walked)) {
            return FULL;
        }
        Text act = law.actOf(year);
        for (int h = 0; h < houseCount; h++) {
            if (isIn(h, street)) {
                int seen = law.countOf(act, houses[h], year, House.SEEN_ONES);
                lines.add(h, year, seen, Lines.WALK, collector, year);
            }
        }
        lines.noteWalk(collector, street, year);
        return walked;
    }

    public int look(int collector, int house) {
        if (!within(collector, 0, LAST_COLLECTOR) || !stands(house)) {
            return FAR_REFUSED;
        }
        if (!lines.hasRoom(1)) {
            return FAR_FULL;
        }
        int before = lines.telling(house, year, year);
        int found = law.countOf(law.actOf(year), houses[house], year, House.USED_ONES);
        lines.add(house, year, found, Lines.LOOK, collector, year);
        return before == NONE ? 0 : found - lines.count[before];
    }

    public int route(int street, int minutes) {
        if (!within(street, 0, LAST_STREET) || !within(minutes, 0, MOST_MINUTES)) {
            return NOT_AS_TOLD;
        }
        if (routeGain == null || routeSet == null) {
            routeGain = new long[MOST_MINUTES + 1];
            routeSet = new int[MOST_MINUTES + 1];
        }
        Arrays.fill(routeGain, NONE);
        Arrays.fill(routeSet, 0);
        routeGain[0] = 0;
        for (int h = 0; h < houseCount; h++) {
            if (isIn(h, street)) {
                widenRoutes(h, minutes);
            }
        }
        int best = 0;
        for (int m = 1; m <= minutes; m++) {
            if (routeGain[m] > routeGain[best]) {
                best = m;
            }
        }
        return routeSet[best];
    }

    public int late(int house, int year, int count) {
        if (!exists(house) || !within(year, 0, this.year - 1) || !within(count, 0, MOST_COUNT)) {
            return NOT_AS_TOLD;
        }
        if (!lines.hasRoom(1)) {
            return FULL;
        }
        lines.add(house, year, count, Lines.LATE, NONE, this.year);
        return 0;
    }

    public long go() {
        if (year >= LAST_YEAR) {
            return ALREADY;
        }
        Text act = law.actOf(year);
        lines.findTelling(year);
        for (int h = 0; h < houseCount; h++) {
            counts[h] = lines.latestCount(h, year);
        }
        long all = 0;
        for (int h = 0; h < houseCount; h++) {
            long pays = payment(act, h);
            houses[h].paidInAll += pays;
            all += pays;
        }
        year++;
        planner.fresh = false;
        return all;
    }

    public int roll(int house, int year, int known, int what) {
        if (!isOnRecord(house, year, known) || !within(what, 0, 3)) {
            return NONE;
        }
        int line = lines.telling(house, year, known);
        return line == NONE ? NONE : lines.fact(line, what);
    }

    public int span(int house, int year, int known, int what) {
        if (!isOnRecord(house, year, known) || !within(what, 0, 1)) {
            return NONE;
        }
        lines.findTelling(known);
        return lines.bound(house, year, moves, what);
    }

    public int habit(int a, int b, int what) {
        if (!within(a, 0, LAST_COLLECTOR) || !within(b, 0, LAST_COLLECTOR)
                || a == b || !within(what, 0, 3)) {
            return FAR_REFUSED;
        }
        return lines.compareWalks(a, b, what);
    }

    public int ask(int known) {
        if (!within(known, 0, year)) {
            return NOT_AS_TOLD;
        }
        Text asked = law.spare;
        lastFault = reader.readAsk(asked);
        if (lastFault != NONE) {
            return FAULTY;
        }
        lines.findTelling(known);
        answers.begin(asked.kind[0]);
        for (int h = 0; h < houseCount; h++) {
            for (int y = 0; y <= year; y++) {
                int line = lines.found(h, y);
                if (line != NONE) {
                    askLine(asked, line, houses[h]);
                }
            }
        }
        return answers.size;
    }

    public long answer(int i, int what) {
        if (!within(i, 0, answers.size - 1)) {
            return 0;
        }
        switch (what) {
            case 0:
                return answers.key[i];
            case 1:
                return answers.value[i];
            case 2:
                return answers.number[i];
            default:
                return 0;
        }
    }

    public int match(int first, int second, int gap) {
        if (!isPlace(first) || !isPlace(second) || !within(gap, 0, 1000)) {
            return NOT_AS_TOLD;
        }
        if (!rows.has(first) || !rows.has(second)) {
            return NOTHING;
        }
        if (!rows.allWithin(first, 0, 10000) || !rows.allWithin(second, 0, 10000)) {
            return FAULTY;
        }
        return rows.pairUp(first, second, gap);
    }

    public int matched(int i) {
        return within(i, 0, rows.pairedLength - 1) ? rows.partner[i] : NONE;
    }

    public long beside(int years, int what) {
        if (!within(years, 1, MOST_PLANNED) || !within(what, 0, Planner.TAX_UNMOVED)) {
            return NOT_AS_TOLD;
        }
        lastFault = reader.readAct(law.spare);
        if (lastFault != NONE) {
            return FAULTY;
        }
        long all = 0;
        for (int h = 0; h < houseCount; h++) {
            if (houses[h].isDown) {
                continue;
            }
            if (what == Planner.TAX_UNMOVED) {
                planner.stay(houses[h]);
            } else {
                planner.find(houses[h], year, years, law.spare);
            }
            all += planner.outcome(houses[h], year, years, law.spare, what);
        }
        return all;
    }

    public int heap(int count) {
        if (count < 0) {
            return NONE;
        }
        Text act = law.actOf(year);
        int number = 0;
        for (int h = 0; h < houseCount; h++) {
            if (!houses[h].isDown && law.countOf(act, houses[h], year, House.OPEN_ONES) == count) {
                number++;
            }
        }
        return number;
    }

    public int houseOf(int house, int what) {
        if (!exists(house)) {
            return NOT_AS_TOLD;
        }
        House h = houses[house];
        switch (what) {
            case 6:
                return Integer.bitCount(h.setOf(House.OPEN_ONES));
            case 7:
                return planner.lightIn(h, h.setOf(House.OPEN_ONES));
            case 8:
                return leastUnderRoofOf(house);
            default:
                return h.fact(what);
        }
    }

    public int opening(int house, int opening, int what) {
        return hasOpening(house, opening) ? houses[house].all[opening].fact(what) : NOT_AS_TOLD;
    }

    public long paid(int house) {
        return exists(house) ? houses[house].paidInAll : NOT_AS_TOLD;
    }

    public int count(int what) {
        switch (what) {
            case 0:
                return year;
            case 1:
                return houseCount;
            case 2:
                return law.acts;
            case 3:
                return court.cases;
            case 4:
                return court.standing();
            case 5:
                return lines.size;
            case 6:
                return reader.length;
            case 7:
                return law.actOf(year).rules;
            case 8:
                return excused();
            case 9:
                return rows.taken();
            default:
                return NONE;
        }
    }

    public int row(int place, int width, int n) {
        if (!isPlace(place) || !within(width, 0, 3) || n > Rows.MOST_NUMBERS) {
            return NOT_AS_TOLD;
        }
        if (n < 0) {
            return FULL;
        }
        rows.lay(place, width, n);
        return 0;
    }

    public boolean tear(int place) {
        if (!isPlace(place) || !rows.has(place)) {
            return false;
        }
        rows.width[place] = NONE;
        return true;
    }

    public int write(int place, int i, long v) {
        if (!isPlace(place)) {
            return NOT_AS_TOLD;
        }
        if (!rows.has(place)) {
            return NOTHING;
        }
        if (!within(i, 0, rows.length[place] - 1)) {
            return BEYOND;
        }
        rows.numbers[place][i] = Rows.cut(v, rows.width[place]);
        return 0;
    }

    public int paste(int place, int i, int to, int k, int n) {
        if (!isPlace(place) || !isPlace(to)) {
            return NOT_AS_TOLD;
        }
        if (!rows.has(place) || !rows.has(to)) {
            return NOTHING;
        }
        if (rows.width[place] != rows.width[to]) {
            return AGAINST;
        }
        if (!rows.reaches(place, i, n) || !rows.reaches(to, k, n)) {
            return BEYOND;
        }
        System.arraycopy(rows.numbers[place], i, rows.numbers[to], k, n);
        return 0;
    }

    private static boolean within(int number, int least, int greatest) {
        return number >= least && number <= greatest;
    }

    private static boolean isYear(int number) {
        return within(number, 0, LAST_YEAR);
    }

    private static boolean isPlace(int number) {
        return within(number, 0, LAST_PLACE);
    }

    private static boolean isWorth(int number) {
        return within(number, 0, 10000);
    }

    private static boolean isFamilies(int number) {
        return within(number, 1, 9);
    }

    private boolean exists(int house) {
        return within(house, 0, houseCount - 1);
    }

    private boolean stands(int house) {
        return exists(house) && !houses[house].isDown;
    }

    private boolean isIn(int house, int street) {
        return stands(house) && houses[house].street == street;
    }

    private boolean hasOpening(int house, int opening) {
        return exists(house) && within(opening, 0, houses[house].openings - 1);
    }

    private boolean isOnRecord(int house, int year, int known) {
        return exists(house) && isYear(year) && within(known, 0, this.year);
    }

    private int leastUnderRoofOf(int house) {
        int least = 0;
        while (least < house && houses[least].roof != houses[house].roof) {
            least++;
        }
        return least;
    }

    /** What a HOUSE pays if the COUNTS are those in the row of counts. */
    private long payment(Text act, int house) {
        if (houses[house].isDown) {
            return 0;
        }
        int least = leastUnderRoofOf(house);
        if (law.someHolds(act, Text.APART, houses[least], year)) {
            return law.taxOf(act, houses[house], year, counts[house]);
        }
        if (house != least) {
            return 0;
        }
        int together = 0;
        for (int h = 0; h < houseCount; h++) {
            together += houses[h].roof == houses[house].roof ? counts[h] : 0;
        }
        return law.taxOf(act, houses[house], year, together);
    }

    private void releaseFallen(House house) {
        for (int i = 0; i < house.openings; i++) {
            Opening o = house.all[i];
            if (o.excusedBy != NONE && !court.isStanding(o.excusedBy)) {
                o.excusedBy = NONE;
            }
        }
    }

    private int excused() {
        int number = 0;
        for (int h = 0; h < houseCount; h++) {
            for (int i = 0; i < houses[h].openings; i++) {
                number += houses[h].all[i].excusedBy == NONE ? 0 : 1;
            }
        }
        return number;
    }

    /**
     * Lets the routes of each exact number of minutes take one HOUSE more. HOUSES come by rising
     * numbers, so of equal gains the route without this one is the lesser set.
     */
    private void widenRoutes(int house, int minutes) {
        House h = houses[house];
        Text act = law.actOf(year);
        long used = law.taxOf(act, h, year, law.countOf(act, h, year, House.USED_ONES));
        long seen = law.taxOf(act, h, year, law.countOf(act, h, year, House.SEEN_ONES));
        long gain = Math.max(0, used - seen);
        for (int m = minutes; m >= h.minutes; m--) {
            int rest = m - h.minutes;
            if (routeGain[rest] != NONE && routeGain[rest] + gain > routeGain[m]) {
                routeGain[m] = routeGain[rest] + gain;
                routeSet[m] = routeSet[rest] | 1 << house;
            }
        }
    }

    private void askLine(Text asked, int line, House house) {
        int of = lines.year[line];
        long tax = law.taxOf(law.actOf(of), house, of, lines.count[line]);
        law.tellLine(lines, line, house, tax);
        if (law.holds(asked, 0)) {
            long key = asked.key == null ? 0 : law.valueOf(asked.key);
            answers.take(key, law.tells(asked, 0));
        }
    }

    /** The words of both languages; those that are names have a slot for what they tell. */
    private enum Word {
        WORTH("worth", 0, true, true),
        FAMILIES("families", 1, true, false),
        STREET("street", 2, true, true),
        ROOMS("rooms", 3, true, false),
        OPENINGS("openings", 4, true, false),
        YEAR("year", 5, true, true),
        COUNT("count", 6, true, true),
        PANES("panes", 7, true, false),
        KIND("kind", 8, true, false),
        FLOOR("floor", 9, true, false),
        BACK("back", 10, true, false),
        LATTICE("lattice", 11, true, false),
        HOUSE("house", 12, false, true),
        KNOWN("known", 13, false, true),
        HOW("how", 14, false, true),
        COLLECTOR("collector", 15, false, true),
        TAX("tax", 16, false, true),
        FROM("from"),
        PAY("pay"),
        ADD("add"),
        COUNTS("counts"),
        PART("part"),
        SPARE("spare"),
        APART("apart"),
        WHEN("when"),
        OR("or"),
        AND("and"),
        NOT("not"),
        LESSER("lesser"),
        GREATER("greater"),
        NUMBER("number"),
        SUM("sum"),
        LEAST("least"),
        GREATEST("greatest"),
        WHERE("where"),
        BY("by");

        static final int SLOTS = 17;

        final String text;
        final int slot;
        final boolean inActs;
        final boolean inAsked;

        Word(String text) {
            this.text = text;
            this.slot = NONE;
            this.inActs = false;
            this.inAsked = false;
        }

        Word(String text, int slot, boolean inActs, boolean inAsked) {
            this.text = text;
            this.slot = slot;
            this.inActs = inActs;
            this.inAsked = inAsked;
        }
    }

    /**
     * A text that was read: its RULES (what is ASKED is a text of one), and their sums and
     * conditions as codes with each operator behind what it works on.
     */
    private static final class Text {
        static final int MOST_RULES = 12;

        static final int PAY = 0;
        static final int ADD = 1;
        static final int COUNTS = 2;
        static final int PART = 3;
        static final int SPARE = 4;
        static final int APART = 5;

        static final int NUMBER = 0;
        static final int SUM = 1;
        static final int LEAST = 2;
        static final int GREATEST = 3;

        /** A code below this is a number itself; one from here on the name of a slot. */
        static final int NAMES = 10000;
        static final int OPERATORS = 20000;
        static final int PLUS = 20000;
        static final int MINUS = 20001;
        static final int TIMES = 20002;
        static final int OVER = 20003;
        static final int BELOW = 20004;
        static final int ABOVE = 20005;
        static final int SAME = 20006;
        static final int LESSER = 20007;
        static final int GREATER = 20008;
        static final int AND = 20009;
        static final int OR = 20010;
        static final int NOT = 20011;

        final int[] code;
        int size = 0;
        final int[] kind;
        final int[] least;
        final int[] sumAt;
        final int[] condsAt;
        final int[] endAt;
        int rules = 0;
        int from = 0;
        Word key = null;

        Text(int codes, int mostRules) {
            code = new int[codes];
            kind = new int[mostRules];
            least = new int[mostRules];
            sumAt = new int[mostRules];
            condsAt = new int[mostRules];
            endAt = new int[mostRules];
        }

        void clear() {
            size = 0;
            rules = 0;
            key = null;
        }

        void put(int next) {
            if (size < code.length) {
                code[size++] = next;
            }
        }

        void beginRule(int ruleKind, int from) {
            if (rules < kind.length) {
                kind[rules] = ruleKind;
                least[rules] = from;
                sumAt[rules] = size;
                rules++;
            }
        }

        void beginConds() {
            if (rules > 0) {
                condsAt[rules - 1] = size;
            }
        }

        void endConds() {
            if (rules > 0) {
                endAt[rules - 1] = size;
            }
        }
    }

    /** The TAPE, and the reading of the texts that are on it. */
    private static final class Reader {
        private static final Word[] WORDS = Word.values();
        private static final int MOST_BYTES = 300;
        private static final int MOST_NUMBER = 9999;
        private static final int MOST_PARENTHESES = 8;

        /** What a token is, if it is not a sign: signs stand for themselves and are greater. */
        private static final int END = 0;
        private static final int WORD = 1;
        private static final int NUMBER = 2;
        private static final int NO_TOKEN = 3;

        private final int[] tape = new int[MOST_BYTES];
        int length = 0;
        /** The tokens of the TAPE, the last one its end; what of them is told: numbers, words. */
        private final int[] token = new int[MOST_BYTES + 1];
        private final int[] place = new int[MOST_BYTES + 1];
        private final int[] told = new int[MOST_BYTES + 1];
        private int tokens = 0;
        private int at = 0;
        private Text text = null;
        private boolean isAsked = false;
        private int fault = NONE;

        boolean hasRoom(int bytes) {
            return length + bytes <= MOST_BYTES;
        }

        void put(int bytes) {
            for (int shift = 24; shift >= 0 && length < MOST_BYTES; shift -= 8) {
                tape[length++] = bytes >> shift & 255;
            }
        }

        /** Reads the TAPE as an ACT, and empties it: the place of the FAULT, or NONE. */
        int readAct(Text into) {
            begin(into, false);
            if (!isAt(END)) {
                readRule();
            }
            for (int k = 0; k < MOST_BYTES && takes(';'); k++) {
                readRule();
            }
            return finish();
        }

        /** Reads the TAPE as what is ASKED, and empties it: the place of the FAULT, or NONE. */
        int readAsk(Text into) {
            begin(into, true);
            readWhat();
            text.beginConds();
            if (takes(Word.WHERE)) {
                readConds(0);
            }
            text.endConds();
            if (takes(Word.BY)) {
                text.key = readName();
            }
            return finish();
        }

        private void begin(Text into, boolean asked) {
            text = into;
            text.clear();
            isAsked = asked;
            fault = NONE;
            at = 0;
            tokens = 0;
            int next = 0;
            for (int k = 0; k < MOST_BYTES && next < length; k++) {
                next = scan(next);
            }
            note(END, length, 0);
        }

        private int finish() {
            if (!isAt(END)) {
                refuse();
            }
            length = 0;
            return fault;
        }

        private void refuse() {
            if (fault == NONE) {
                fault = place[at];
            }
        }

        private void note(int what, int from, int tells) {
            if (tokens < token.length) {
                token[tokens] = what;
                place[tokens] = from;
                told[tokens] = tells;
                tokens++;
            }
        }

        /** Notes the token that begins at a place, unless that is a blank: the place behind it. */
        private int scan(int from) {
            int sign = tape[from];
            if (isLetter(sign)) {
                return scanWord(from);
            }
            if (isDigit(sign)) {
                return scanNumber(from);
            }
            if (sign != ' ' && sign != '\n') {
                note(isSign(sign) ? sign : NO_TOKEN, from, 0);
            }
            return from + 1;
        }

        private int scanWord(int from) {
            int to = from;
            while (to < length && isLetter(tape[to])) {
                to++;
            }
            int found = NONE;
            for (int w = 0; w < WORDS.length && found == NONE; w++) {
                if (isOnTape(WORDS[w].text, from, to)) {
                    found = w;
                }
            }
            note(WORD, from, found);
            return to;
        }

        private boolean isOnTape(String sought, int from, int to) {
            if (sought.length() != to - from) {
                return false;
            }
            for (int i = 0; i < sought.length(); i++) {
                if (sought.charAt(i) != tape[from + i]) {
                    return false;
                }
            }
            return true;
        }

        /** A number of any digits must not go around, so it stays at the first one too great. */
        private int scanNumber(int from) {
            int number = 0;
            int to = from;
            while (to < length && isDigit(tape[to])) {
                number = Math.min(MOST_NUMBER + 1, number * 10 + tape[to] - '0');
                to++;
            }
            note(NUMBER, from, number);
            return to;
        }

        private static boolean isLetter(int sign) {
            return sign >= 'a' && sign <= 'z';
        }

        private static boolean isDigit(int sign) {
            return sign >= '0' && sign <= '9';
        }

        private static boolean isSign(int sign) {
            return sign >= '(' && sign <= '/' && sign != '.' || sign >= ';' && sign <= '>';
        }

        private boolean isAt(int sign) {
            return fault == NONE && token[at] == sign;
        }

        /** The end is never taken, so there is always a token to look at. */
        private boolean takes(int sign) {
            if (sign == END || !isAt(sign)) {
                return false;
            }
            at++;
            return true;
        }

        private boolean takes(Word sought) {
            if (!isAt(WORD) || told[at] == NONE || WORDS[told[at]] != sought) {
                return false;
            }
            at++;
            return true;
        }

        private void need(int sign) {
            if (!takes(sign)) {
                refuse();
            }
        }

        private void needOpened(int depth) {
            if (depth >= MOST_PARENTHESES || !takes('(')) {
                refuse();
            }
        }

        private void readRule() {
            if (text.rules >= Text.MOST_RULES) {
                refuse();
            } else if (takes(Word.FROM)) {
                readFrom();
            } else if (takes(Word.COUNTS)) {
                text.beginRule(Text.COUNTS, 0);
                readSum(0);
            } else if (takes(Word.PART)) {
                text.beginRule(Text.PART, 0);
                readSum(0);
            } else if (takes(Word.SPARE)) {
                text.beginRule(Text.SPARE, 0);
            } else if (takes(Word.APART)) {
                text.beginRule(Text.APART, 0);
            } else {
                refuse();
            }
            text.beginConds();
            if (takes(Word.WHEN)) {
                readConds(0);
            }
            text.endConds();
        }

        private void readFrom() {
            int from = readNumber();
            if (takes(Word.PAY)) {
                text.beginRule(Text.PAY, from);
            } else if (takes(Word.ADD)) {
                text.beginRule(Text.ADD, from);
            } else {
                refuse();
            }
            readSum(0);
        }

        private void readWhat() {
            if (takes(Word.NUMBER)) {
                text.beginRule(Text.NUMBER, 0);
                return;
            }
            if (takes(Word.SUM)) {
                text.beginRule(Text.SUM, 0);
            } else if (takes(Word.LEAST)) {
                text.beginRule(Text.LEAST, 0);
            } else if (takes(Word.GREATEST)) {
                text.beginRule(Text.GREATEST, 0);
            } else {
                refuse();
            }
            readSum(0);
        }

        private int readNumber() {
            if (!isAt(NUMBER) || told[at] > MOST_NUMBER) {
                refuse();
                return 0;
            }
            return told[at++];
        }

        private Word readName() {
            Word name = isAt(WORD) && told[at] != NONE ? WORDS[told[at]] : null;
            if (name == null || !(isAsked ? name.inAsked : name.inActs)) {
                refuse();
                return null;
            }
            at++;
            return name;
        }

        private void readConds(int depth) {
            readAll(depth);
            for (int k = 0; k < MOST_BYTES && takes(Word.OR); k++) {
                readAll(depth);
                text.put(Text.OR);
            }
        }

        private void readAll(int depth) {
            readCond(depth);
            for (int k = 0; k < MOST_BYTES && takes(Word.AND); k++) {
                readCond(depth);
                text.put(Text.AND);
            }
        }

        private void readCond(int depth) {
            if (takes(Word.NOT)) {
                needOpened(depth);
                if (fault == NONE) {
                    readConds(depth + 1);
                }
                need(')');
                text.put(Text.NOT);
                return;
            }
            readSum(depth);
            int sign = token[at];
            if (takes('<') || takes('>') || takes('=')) {
                readSum(depth);
                text.put(sign == '<' ? Text.BELOW : sign == '>' ? Text.ABOVE : Text.SAME);
            } else {
                refuse();
            }
        }

        private void readSum(int depth) {
            readTerm(depth);
            for (int k = 0; k < MOST_BYTES && (isAt('+') || isAt('-')); k++) {
                int operator = isAt('+') ? Text.PLUS : Text.MINUS;
                at++;
                readTerm(depth);
                text.put(operator);
            }
        }

        private void readTerm(int depth) {
            readFactor(depth);
            for (int k = 0; k < MOST_BYTES && (isAt('*') || isAt('/')); k++) {
                int operator = isAt('*') ? Text.TIMES : Text.OVER;
                at++;
                readFactor(depth);
                text.put(operator);
            }
        }

        private void readFactor(int depth) {
            if (isAt(NUMBER)) {
                text.put(readNumber());
            } else if (isAt('(')) {
                needOpened(depth);
                readInner(depth);
                need(')');
            } else if (takes(Word.LESSER)) {
                readTwo(depth);
                text.put(Text.LESSER);
            } else if (takes(Word.GREATER)) {
                readTwo(depth);
                text.put(Text.GREATER);
            } else {
                Word name = readName();
                if (name != null) {
                    text.put(Text.NAMES + name.slot);
                }
            }
        }

        private void readTwo(int depth) {
            needOpened(depth);
            readInner(depth);
            need(',');
            readInner(depth);
            need(')');
        }

        /** Nothing is read on behind a FAULT: that keeps the depth within the parentheses. */
        private void readInner(int depth) {
            if (fault == NONE) {
                readSum(depth + 1);
            }
        }
    }

    /** The ACTS, and what they tell of HOUSES and OPENINGS. */
    private static final class Law {
        private static final int MOST_ACTS = 12;
        private static final int MOST_CODES = Reader.MOST_BYTES;
        private static final int MOST_WEIGHT = 9;
        private static final long MOST_TAX = 1000000000;

        private final Text[] actFrom = new Text[MOST_ACTS];
        int acts = 0;
        /** What is read goes here first, so that a FAULT leaves the ACTS as they are. */
        Text spare = new Text(MOST_CODES, Text.MOST_RULES);
        private final Text noRules = new Text(0, 0);
        private final long[] values = new long[Word.SLOTS];
        private final long[] stack = new long[MOST_CODES];

        boolean isFull() {
            return acts >= MOST_ACTS;
        }

        /** The text that was read is an ACT from now on; the one it takes the place of is spare. */
        int enactSpare(int from) {
            Text enacted = spare;
            enacted.from = from;
            for (int k = 0; k < acts; k++) {
                if (actFrom[k].from == from) {
                    spare = actFrom[k];
                    actFrom[k] = enacted;
                    return enacted.rules;
                }
            }
            if (acts < MOST_ACTS) {
                actFrom[acts++] = enacted;
                spare = new Text(MOST_CODES, Text.MOST_RULES);
            }
            return enacted.rules;
        }

        Text actOf(int year) {
            Text found = noRules;
            for (int k = 0; k < acts; k++) {
                Text act = actFrom[k];
                if (act.from <= year && (found == noRules || act.from > found.from)) {
                    found = act;
                }
            }
            return found;
        }

        int weigh(Text act, House house, Opening opening, int year) {
            if (opening.excusedBy != NONE) {
                return 0;
            }
            tellHouse(house, year);
            tellOpening(opening);
            for (int r = 0; r < act.rules; r++) {
                if (act.kind[r] == Text.COUNTS && holds(act, r)) {
                    return (int) Math.max(0, Math.min(MOST_WEIGHT, tells(act, r)));
                }
            }
            return 1;
        }

        int countOf(Text act, House house, int year, int which) {
            return countOfSet(act, house, year, house.setOf(which));
        }

        int countOfSet(Text act, House house, int year, int set) {
            int count = 0;
            for (int i = 0; i < house.openings; i++) {
                if ((set >> i & 1) == 1) {
                    count += weigh(act, house, house.all[i], year);
                }
            }
            return count;
        }

        long taxOf(Text act, House house, int year, int count) {
            if (count <= 0 || someHolds(act, Text.SPARE, house, year)) {
                return 0;
            }
            values[Word.COUNT.slot] = count;
            long pay = 0;
            long added = 0;
            long part = 100;
            int greatest = 0;
            for (int r = 0; r < act.rules; r++) {
                int kind = act.kind[r];
                int least = act.least[r];
                if (least > count || !holds(act, r)) {
                    continue;
                }
                if (kind == Text.PAY && least >= greatest) {
                    greatest = least;
                    pay = tells(act, r) * count;
                } else if (kind == Text.ADD) {
                    added += tells(act, r) * (count - least + 1);
                } else if (kind == Text.PART) {
                    part = tells(act, r);
                }
            }
            return Math.max(0, Math.min(MOST_TAX, (pay + added) * part / 100));
        }

        /** Whether some RULE of a kind that is told no COUNT holds of a HOUSE. */
        boolean someHolds(Text act, int kind, House house, int year) {
            tellHouse(house, year);
            for (int r = 0; r < act.rules; r++) {
                if (act.kind[r] == kind && holds(act, r)) {
                    return true;
                }
            }
            return false;
        }

        private void tellHouse(House house, int year) {
            Arrays.fill(values, 0);
            values[Word.WORTH.slot] = house.worth;
            values[Word.FAMILIES.slot] = house.families;
            values[Word.STREET.slot] = house.street;
            values[Word.ROOMS.slot] = house.rooms;
            values[Word.OPENINGS.slot] = house.openings;
            values[Word.YEAR.slot] = year;
        }

        private void tellOpening(Opening opening) {
            values[Word.PANES.slot] = opening.panes;
            values[Word.KIND.slot] = opening.kind;
            values[Word.FLOOR.slot] = opening.floor;
            values[Word.BACK.slot] = opening.back;
            values[Word.LATTICE.slot] = opening.lattice;
        }

        void tellLine(Lines lines, int line, House house, long tax) {
            tellHouse(house, lines.year[line]);
            values[Word.HOUSE.slot] = lines.house[line];
            values[Word.COUNT.slot] = lines.count[line];
            values[Word.KNOWN.slot] = lines.known[line];
            values[Word.HOW.slot] = lines.how[line];
            values[Word.COLLECTOR.slot] = lines.collector[line];
            values[Word.TAX.slot] = tax;
        }

        long valueOf(Word name) {
            return name.slot == NONE ? 0 : values[name.slot];
        }

        boolean holds(Text text, int rule) {
            int from = text.condsAt[rule];
            int to = text.endAt[rule];
            return from >= to || worked(text.code, from, to) != 0;
        }

        long tells(Text text, int rule) {
            return worked(text.code, text.sumAt[rule], text.condsAt[rule]);
        }

        private long worked(int[] code, int from, int to) {
            int top = 0;
            for (int i = from; i < to && top < stack.length; i++) {
                int next = code[i];
                if (next < Text.NAMES) {
                    stack[top++] = next;
                } else if (next < Text.OPERATORS) {
                    stack[top++] = values[next - Text.NAMES];
                } else if (next == Text.NOT && top > 0) {
                    stack[top - 1] = 1 - stack[top - 1];
                } else if (top > 1) {
                    top--;
                    stack[top - 1] = combined(next, stack[top - 1], stack[top]);
                }
            }
            return top > 0 ? stack[top - 1] : 0;
        }

        private static long combined(int operator, long a, long b) {
            switch (operator) {
                case Text.PLUS:
                    return a + b;
                case Text.MINUS:
                    return a - b;
                case Text.TIMES:
                    return a * b;
                case Text.OVER:
                    return b == 0 ? 0 : a / b;
                case Text.BELOW:
                    return a < b ? 1 : 0;
                case Text.ABOVE:
                    return a > b ? 1 : 0;
                case Text.SAME:
                    return a == b ? 1 : 0;
                case Text.LESSER:
                    return a < b ? a : b;
                case Text.GREATER:
                    return a > b ? a : b;
                case Text.AND:
                    return a & b;
                case Text.OR:
                    return a | b;
                default:
                    return 0;
            }
        }
    }

    private static final class Opening {
        final int room;
        final int kind;
        final int floor;
        final int panes;
        final int back;
        final int lattice;
        int state = OPEN;
        int excusedBy = NONE;

        Opening(int room, int kind, int floor, int panes, boolean back, boolean lattice) {
            this.room = room;
            this.kind = kind;
            this.floor = floor;
            this.panes = panes;
            this.back = back ? 1 : 0;
            this.lattice = lattice ? 1 : 0;
        }

        int fact(int what) {
            switch (what) {
                case 0:
                    return room;
                case 1:
                    return panes;
                case 2:
                    return floor;
                case 3:
                    return kind;
                case 4:
                    return back;
                case 5:
                    return lattice;
                case 6:
                    return state;
                case 7:
                    return excusedBy;
                default:
                    return NOT_AS_TOLD;
            }
        }
    }

    private static final class House {
        static final int OPEN_ONES = 0;
        static final int SEEN_ONES = 1;
        static final int USED_ONES = 2;
        static final int FREE_ONES = 3;
        /** A number in a row for a ROOM that is above this has a lattice. */
        static final int LATTICE_MARK = 100;

        final int street;
        int worth;
        int families;
        final int minutes;
        int roof;
        int rooms = 0;
        final int[] kindOf = new int[MOST_ROOMS];
        int openings = 0;
        final Opening[] all = new Opening[MOST_OPENINGS];
        boolean isDown = false;
        long paidInAll = 0;

        House(int street, int worth, int families, int minutes, int roof) {
            this.street = street;
            this.worth = worth;
            this.families = families;
            this.minutes = minutes;
            this.roof = roof;
        }

        void addOpening(int kind, int floor, int told) {
            int size = Math.abs(told);
            boolean lattice = size > LATTICE_MARK;
            int panes = lattice ? size - LATTICE_MARK : size;
            if (openings < MOST_OPENINGS) {
                all[openings++] = new Opening(rooms, kind, floor, panes, told < 0, lattice);
            }
        }

        int addRoom(int kind) {
            if (rooms >= MOST_ROOMS) {
                return FULL;
            }
            kindOf[rooms] = kind;
            return rooms++;
        }

        int setOf(int which) {
            int set = 0;
            for (int i = 0; i < openings; i++) {
                if (isAmong(all[i], which)) {
                    set |= 1 << i;
                }
            }
            return set;
        }

        private static boolean isAmong(Opening opening, int which) {
            switch (which) {
                case OPEN_ONES:
                    return opening.state == OPEN;
                case SEEN_ONES:
                    return opening.state == OPEN && opening.back == 0;
                case USED_ONES:
                    return opening.state != BRICKED;
                default:
                    return opening.state != BOARDED;
            }
        }

        /** Of those that are not boarded just these are open from now on: how many changed. */
        int openOnly(int set) {
            int changed = set ^ setOf(OPEN_ONES);
            for (int i = 0; i < openings; i++) {
                if ((changed >> i & 1) == 1) {
                    all[i].state = (set >> i & 1) == 1 ? OPEN : BRICKED;
                }
            }
            return Integer.bitCount(changed);
        }

        int fact(int what) {
            switch (what) {
                case 0:
                    return street;
                case 1:
                    return worth;
                case 2:
                    return families;
                case 3:
                    return minutes;
                case 4:
                    return rooms;
                case 5:
                    return openings;
                case 9:
                    return isDown ? 1 : 0;
                default:
                    return NOT_AS_TOLD;
            }
        }
    }

    /** The CASES, each as a row of facts that bear the numbers by which they are asked for. */
    private static final class Court {
        static final int FACTS = 8;
        private static final int MOST_CASES = 60;
        private static final int KIND = 0;
        private static final int PANES = 1;
        private static final int FLOOR = 2;
        private static final int BACK = 3;
        private static final int LATTICE = 4;
        private static final int WINDOW = 5;
        private static final int LEANS_ON = 6;
        private static final int STANDS = 7;

        int near = 5;
        int cases = 0;
        final int[] fact = new int[MOST_CASES * FACTS];

        boolean isFull() {
            return cases >= MOST_CASES;
        }

        boolean isStanding(int held) {
            return fact[held * FACTS + STANDS] == 1;
        }

        boolean saysWindow(int held) {
            return fact[held * FACTS + WINDOW] == 1;
        }

        int hold(Opening like, boolean window, int leansOn) {
            if (isFull()) {
                return FULL;
            }
            int at = cases * FACTS;
            fact[at + KIND] = like.kind;
            fact[at + PANES] = like.panes;
            fact[at + FLOOR] = like.floor;
            fact[at + BACK] = like.back;
            fact[at + LATTICE] = like.lattice;
            fact[at + WINDOW] = window ? 1 : 0;
            fact[at + LEANS_ON] = leansOn;
            fact[at + STANDS] = 1;
            return cases++;
        }

        int nearestTo(Opening opening) {
            int best = NONE;
            int least = near;
            for (int c = 0; c < cases; c++) {
                int away = distance(c * FACTS, opening);
                if (isStanding(c) && away <= least) {
                    best = c;
                    least = away;
                }
            }
            return best;
        }

        private int distance(int at, Opening opening) {
            int away = Math.abs(fact[at + PANES] - opening.panes);
            away += 2 * Math.abs(fact[at + FLOOR] - opening.floor);
            away += fact[at + KIND] == opening.kind ? 0 : 4;
            away += fact[at + BACK] == opening.back ? 0 : 3;
            away += fact[at + LATTICE] == opening.lattice ? 0 : 3;
            return away;
        }

        /** A CASE leans on an earlier one alone, so one way through them finds all that fall. */
        int fell(int held) {
            fact[held * FACTS + STANDS] = 0;
            int fallen = 1;
            for (int c = held + 1; c < cases; c++) {
                int leansOn = fact[c * FACTS + LEANS_ON];
                if (isStanding(c) && leansOn != NONE && !isStanding(leansOn)) {
                    fact[c * FACTS + STANDS] = 0;
                    fallen++;
                }
            }
            return fallen;
        }

        int standing() {
            int number = 0;
            for (int c = 0; c < cases; c++) {
                number += isStanding(c) ? 1 : 0;
            }
            return number;
        }
    }

    /** The LINES of the ROLL in the order in which they came to be known. */
    private static final class Lines {
        static final int WALK = 0;
        static final int LOOK = 1;
        static final int LATE = 2;
        private static final int MOST_LINES = 1200;
        private static final int YEARS = LAST_YEAR + 1;
        private static final int STREETS = LAST_STREET + 1;
        private static final int COLLECTORS = LAST_COLLECTOR + 1;

        final int[] house = new int[MOST_LINES];
        final int[] year = new int[MOST_LINES];
        final int[] count = new int[MOST_LINES];
        final int[] how = new int[MOST_LINES];
        final int[] collector = new int[MOST_LINES];
        final int[] known = new int[MOST_LINES];
        int size = 0;
        /** One more than the YEAR of a collector's latest WALK of a STREET. */
        private final int[] walked = new int[COLLECTORS * STREETS];
        /** For each HOUSE and YEAR one more than the LINE that was found for it. */
        private final int[] lineOf = new int[MOST_HOUSES * YEARS];

        boolean hasRoom(int more) {
            return size + more <= MOST_LINES;
        }

        boolean hasWalked(int byWhom, int street, int inYear) {
            return walked[byWhom * STREETS + street] == inYear + 1;
        }

        void noteWalk(int byWhom, int street, int inYear) {
            walked[byWhom * STREETS + street] = inYear + 1;
        }

        void add(int ofHouse, int ofYear, int told, int inWay, int byWhom, int knownIn) {
            if (size >= MOST_LINES) {
                return;
            }
            house[size] = ofHouse;
            year[size] = ofYear;
            count[size] = told;
            how[size] = inWay;
            collector[size] = byWhom;
            known[size] = knownIn;
            size++;
        }

        int fact(int line, int what) {
            switch (what) {
                case 0:
                    return count[line];
                case 1:
                    return how[line];
                case 2:
                    return collector[line];
                default:
                    return known[line];
            }
        }

        /** The LINE that tells of a HOUSE and a YEAR, by what was known at the end of a YEAR. */
        int telling(int ofHouse, int ofYear, int knownBy) {
            for (int line = size - 1; line >= 0; line--) {
                if (house[line] == ofHouse && year[line] == ofYear && known[line] <= knownBy) {
                    return line;
                }
            }
            return NONE;
        }

        /** Finds for all HOUSES and YEARS at once the LINES that tell. */
        void findTelling(int knownBy) {
            Arrays.fill(lineOf, 0);
            for (int line = 0; line < size; line++) {
                if (known[line] <= knownBy) {
                    lineOf[house[line] * YEARS + year[line]] = line + 1;
                }
            }
        }

        int found(int ofHouse, int ofYear) {
            return lineOf[ofHouse * YEARS + ofYear] - 1;
        }

        /** The COUNT of the latest YEAR, up to this one, of which a LINE was found; 0 without. */
        int latestCount(int ofHouse, int upTo) {
            for (int y = upTo; y >= 0; y--) {
                int line = found(ofHouse, y);
                if (line != NONE) {
                    return count[line];
                }
            }
            return 0;
        }

        /** The least (0) or the greatest (1) COUNT of a YEAR that fits with the LINES found. */
        int bound(int ofHouse, int ofYear, int moves, int what) {
            int least = 0;
            int greatest = MOST_COUNT;
            int before = NONE;
            for (int y = 0; y < YEARS; y++) {
                int line = found(ofHouse, y);
                if (line == NONE) {
                    continue;
                }
                if (before != NONE && Math.abs(count[line] - count[before]) > moves * (y - year[before])) {
                    return AGAINST;
                }
                int room = moves * Math.abs(y - ofYear);
                least = Math.max(least, count[line] - room);
                greatest = Math.min(greatest, count[line] + room);
                before = line;
            }
            if (before == NONE) {
                return NONE;
            }
            return what == 0 ? least : greatest;
        }

        int compareWalks(int a, int b, int what) {
            Arrays.fill(lineOf, 0);
            for (int line = 0; line < size; line++) {
                if (how[line] == WALK && collector[line] == b) {
                    lineOf[house[line] * YEARS + year[line]] = line + 1;
                }
            }
            int sum = 0;
            int both = 0;
            int least = 0;
            int greatest = 0;
            for (int line = 0; line < size; line++) {
                int other = found(house[line], year[line]);
                if (how[line] == WALK && collector[line] == a && other != NONE) {
                    int more = count[line] - count[other];
                    least = both == 0 ? more : Math.min(least, more);
                    greatest = both == 0 ? more : Math.max(greatest, more);
                    sum += more;
                    both++;
                }
            }
            switch (what) {
                case 0:
                    return sum;
                case 1:
                    return both;
                case 2:
                    return least;
                default:
                    return greatest;
            }
        }
    }

    /** Light, the owners' costs, and the PLAN of one HOUSE by itself. */
    private static final class Planner {
        static final int TAX_FIRST = 0;
        static final int OPEN_LAST = 2;
        static final int LIGHT_LAST = 3;
        static final int TAX_UNMOVED = 4;
        private static final int SETS = 1 << MOST_OPENINGS;
        private static final int MOST_HOUSE_COUNT = MOST_OPENINGS * Law.MOST_WEIGHT;

        private final Law law;
        final int[] lightOf = {3, 3, 3, 3};
        final int[] enoughOf = {12, 12, 12, 12};
        int bricking = 20;
        int reopening = 30;

        /** What the PLAN that was found last has open in each of its YEARS. */
        private final int[] sets = new int[MOST_PLANNED];
        final int[] keptSets = new int[MOST_PLANNED];
        int keptYears = 0;
        House keptHouse = null;
        /** Whether nothing was done since that PLAN was kept. */
        boolean fresh = false;

        /** For each YEAR and set what it and the YEARS behind it bring; the changes to it aside. */
        private long[] worthOf = null;
        /** For each set the most that can come if it was open ahead of the YEAR. */
        private long[] mostFrom = null;
        private int[] lightOfSet = null;
        private int[] countOfSet = null;
        private long[] taxOfCount = null;

        Planner(Law law) {
            this.law = law;
        }

        int lightIn(House house, int set) {
            int all = 0;
            for (int r = 0; r < house.rooms; r++) {
                int panes = 0;
                for (int i = 0; i < house.openings; i++) {
                    Opening o = house.all[i];
                    panes += o.room == r && (set >> i & 1) == 1 ? o.panes : 0;
                }
                int kind = house.kindOf[r];
                all += lightOf[kind] * Math.min(panes, enoughOf[kind]);
            }
            return all;
        }

        void keep(House house, int years) {
            System.arraycopy(sets, 0, keptSets, 0, years);
            keptYears = years;
            keptHouse = house;
            fresh = true;
        }

        /** Finds the PLAN, by the ACT beside if there is one: its worth. */
        long find(House house, int year, int years, Text beside) {
            makeRoom();
            int number = 1 << house.openings;
            int free = house.setOf(House.FREE_ONES);
            for (int s = 0; s < number; s++) {
                lightOfSet[s] = lightIn(house, s);
                mostFrom[s] = 0;
            }
            for (int y = years - 1; y >= 0; y--) {
                Text act = beside == null ? law.actOf(year + y) : beside;
                weighSets(act, house, year + y);
                for (int s = 0; s < number; s++) {
                    mostFrom[s] += lightOfSet[s] - taxOfCount[countOfSet[s]];
                }
                System.arraycopy(mostFrom, 0, worthOf, y * SETS, number);
                allowChanges(number, free);
            }
            int set = house.setOf(House.OPEN_ONES);
            long worth = mostFrom[set];
            for (int y = 0; y < years; y++) {
                set = choose(y * SETS, set, number, free);
                sets[y] = set;
            }
            return worth;
        }

        private void makeRoom() {
            if (worthOf == null) {
                worthOf = new long[MOST_PLANNED * SETS];
                mostFrom = new long[SETS];
                lightOfSet = new int[SETS];
                countOfSet = new int[SETS];
                taxOfCount = new long[MOST_HOUSE_COUNT + 1];
            }
        }

        /** Fills in the COUNT of each set in a YEAR, and the TAX of each COUNT that can come. */
        private void weighSets(Text act, House house, int year) {
            countOfSet[0] = 0;
            int most = 0;
            for (int i = 0; i < house.openings; i++) {
                int weight = law.weigh(act, house, house.all[i], year);
                int bit = 1 << i;
                for (int s = 0; s < bit; s++) {
                    countOfSet[bit + s] = countOfSet[s] + weight;
                }
                most += weight;
            }
            for (int c = 0; c <= most; c++) {
                taxOfCount[c] = law.taxOf(act, house, year, c);
            }
        }

        /**
         * From what each set brings to the most that can come from it by changes: each change
         * costs by itself, so one OPENING after the other may change or stay.
         */
        private void allowChanges(int number, int free) {
            for (int i = 0; i < MOST_OPENINGS; i++) {
                int bit = free & 1 << i;
                for (int s = 0; s < number && bit != 0; s++) {
                    if ((s & bit) == 0) {
                        long without = mostFrom[s];
                        long with = mostFrom[s | bit];
                        mostFrom[s] = Math.max(without, with - reopening);
                        mostFrom[s | bit] = Math.max(with, without - bricking);
                    }
                }
            }
        }

        private int choose(int at, int before, int number, int free) {
            int best = NONE;
            long most = 0;
            int fewest = 0;
            for (int s = 0; s < number; s++) {
                if ((s & ~free) != 0) {
                    continue;
                }
                int bricked = Integer.bitCount(before & ~s);
                int opened = Integer.bitCount(s & ~before);
                long worth = worthOf[at + s] - (long) bricking * bricked - (long) reopening * opened;
                int changes = bricked + opened;
                if (best == NONE || worth > most || worth == most && changes < fewest) {
                    best = s;
                    most = worth;
                    fewest = changes;
                }
            }
            return Math.max(0, best);
        }

        /** In place of a PLAN: nothing is done in any YEAR. */
        void stay(House house) {
            Arrays.fill(sets, house.setOf(House.OPEN_ONES));
        }

        /** What comes of the sets that were found last, if an ACT is the one of all their YEARS. */
        long outcome(House house, int year, int years, Text act, int what) {
            int last = sets[years - 1];
            if (what == OPEN_LAST) {
                return Integer.bitCount(last);
            }
            if (what == LIGHT_LAST) {
                return lightIn(house, last);
            }
            long taxes = 0;
            int taxed = what == TAX_FIRST ? 1 : years;
            for (int y = 0; y < taxed; y++) {
                int count = law.countOfSet(act, house, year + y, sets[y]);
                taxes += law.taxOf(act, house, year + y, count);
            }
            return taxes;
        }
    }

    /** What was told by the latest ask, by rising keys. */
    private static final class Answers {
        private static final int MOST_KEYS = 200;

        final long[] key = new long[MOST_KEYS];
        final long[] value = new long[MOST_KEYS];
        final int[] number = new int[MOST_KEYS];
        int size = 0;
        private int asked = Text.NUMBER;

        void begin(int what) {
            asked = what;
            size = 0;
        }

        void take(long ofKey, long told) {
            int at = 0;
            while (at < size && key[at] < ofKey) {
                at++;
            }
            if (at >= MOST_KEYS) {
                return;
            }
            if (at < size && key[at] == ofKey) {
                number[at]++;
                value[at] = merged(value[at], told);
                return;
            }
            open(at);
            key[at] = ofKey;
            number[at] = 1;
            value[at] = asked == Text.NUMBER ? 1 : told;
        }

        private long merged(long before, long told) {
            switch (asked) {
                case Text.SUM:
                    return before + told;
                case Text.LEAST:
                    return Math.min(before, told);
                case Text.GREATEST:
                    return Math.max(before, told);
                default:
                    return before + 1;
            }
        }

        /** Makes way for a key; beyond the most keys the greatest one falls out for good. */
        private void open(int at) {
            if (size < MOST_KEYS) {
                size++;
            }
            for (int i = size - 1; i > at; i--) {
                key[i] = key[i - 1];
                value[i] = value[i - 1];
                number[i] = number[i - 1];
            }
        }
    }

    /** The PLACES with their rows, and how two of these are MATCHED. */
    private static final class Rows {
        static final int MOST_NUMBERS = 60;
        private static final int PLACES = LAST_PLACE + 1;
        private static final int SIDE = MOST_NUMBERS + 1;

        final long[][] numbers = new long[PLACES][MOST_NUMBERS];
        final int[] width = {NONE, NONE, NONE, NONE};
        final int[] length = new int[PLACES];
        final int[] partner = new int[MOST_NUMBERS];
        int pairedLength = 0;
        /** The least cost of what is left of both rows from two numbers on. */
        private int[] costFrom = null;

        boolean has(int place) {
            return width[place] != NONE;
        }

        int taken() {
            int number = 0;
            for (int p = 0; p < PLACES; p++) {
                number += has(p) ? 1 : 0;
            }
            return number;
        }

        void lay(int place, int ofWidth, int n) {
            width[place] = ofWidth;
            length[place] = n;
            Arrays.fill(numbers[place], 0);
        }

        static long cut(long number, int toWidth) {
            switch (toWidth) {
                case 0:
                    return (byte) number;
                case 1:
                    return (short) number;
                case 2:
                    return (int) number;
                default:
                    return number;
            }
        }

        /** In 64 bits, as two great numbers together go around in 32. */
        boolean reaches(int place, int from, int n) {
            return from >= 0 && n >= 0 && (long) from + n <= length[place];
        }

        boolean allWithin(int place, long least, long greatest) {
            for (int i = 0; i < length[place]; i++) {
                if (numbers[place][i] < least || numbers[place][i] > greatest) {
                    return false;
                }
            }
            return true;
        }

        boolean tellsOpenings(int place) {
            int mark = House.LATTICE_MARK;
            if (!allWithin(place, -mark - MOST_PANES, mark + MOST_PANES)) {
                return false;
            }
            for (int i = 0; i < length[place]; i++) {
                long size = Math.abs(numbers[place][i]);
                long panes = size > mark ? size - mark : size;
                if (panes < 1 || panes > MOST_PANES) {
                    return false;
                }
            }
            return true;
        }

        int pairUp(int first, int second, int gap) {
            if (costFrom == null) {
                costFrom = new int[SIDE * SIDE];
            }
            int n = length[first];
            int m = length[second];
            for (int i = n; i >= 0; i--) {
                for (int j = m; j >= 0; j--) {
                    costFrom[i * SIDE + j] = leastCost(first, i, second, j, gap);
                }
            }
            pairedLength = n;
            Arrays.fill(partner, NONE);
            notePairs(first, second, gap);
            return costFrom[0];
        }

        private int leastCost(int first, int i, int second, int j, int gap) {
            int leftFirst = length[first] - i;
            int leftSecond = length[second] - j;
            if (leftFirst == 0 || leftSecond == 0) {
                return (leftFirst + leftSecond) * gap;
            }
            int gaps = gap + Math.min(costFrom[(i + 1) * SIDE + j], costFrom[i * SIDE + j + 1]);
            return Math.min(gaps, pairCost(first, i, second, j));
        }

        private int pairCost(int first, int i, int second, int j) {
            long apart = Math.abs(numbers[first][i] - numbers[second][j]);
            return (int) apart + costFrom[(i + 1) * SIDE + j + 1];
        }

        private void notePairs(int first, int second, int gap) {
            int i = 0;
            int j = 0;
            for (int k = 0; k < 2 * MOST_NUMBERS && i < length[first] && j < length[second]; k++) {
                int cost = costFrom[i * SIDE + j];
                if (pairCost(first, i, second, j) == cost) {
                    partner[i] = j;
                    i++;
                    j++;
                } else if (gap + costFrom[(i + 1) * SIDE + j] == cost) {
                    i++;
                } else {
                    j++;
                }
            }
        }
    }
}
