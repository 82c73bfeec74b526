/** The edges of what Term II tells of values, WEIGHT, COUNT and TAX, of Term III, and of promises 14 to 17 and 39. */
public final class ActEdgesTest {
    private static final Checks C = new Checks();
    /** 2 to the 32nd, and the least value, as SUMS. */
    private static final String TWO_32 = "(256*256*256*256)";
    private static final String LEAST = "(128*256*256*256*" + TWO_32 + ")";

    public static void main(String[] args) throws Exception {
        C.runAll(ActEdgesTest.class);
    }

    /** TAX of a COUNT by one ACT, of a HOUSE of WORTH 10000 and 2 FAMILIES. */
    private static long tax(String text, int count) {
        WindowRoll x = new WindowRoll();
        x.house(1, 10000, 2, 1);
        C.is("RULES of " + text, Checks.act(x, 0, text) >= 0, true);
        return x.tax(0, 0, count);
    }

    /** A SUM that tells 0 .. 1000000000. */
    private static long sum(String sum) {
        return tax("from 1 pay " + sum, 1);
    }

    /** Whether CONDS hold, by a spare. */
    private static boolean holds(String conds) {
        return tax("from 1 pay 1;spare when " + conds, 1) == 0;
    }

    /** WEIGHT of an OPENING of 20 panes by one ACT. */
    private static int weight(String text) {
        WindowRoll x = Checks.oneRoom(20);
        C.is("RULES of " + text, Checks.act(x, 0, text) >= 0, true);
        return x.weight(0, 0, 0);
    }

    /** Term II: the ACT of a YEAR is "the one from the latest YEAR not behind it, none ahead of all". */
    private static void term2ActOfYear() {
        WindowRoll x = Checks.oneRoom(1);
        int[] from = {40, 10, 70, 11, 98};
        for (int f : from) {
            Checks.act(x, f, "from 1 pay " + f);
        }
        for (int y = 0; y < 100; y++) {
            int due = y < 10 ? 0 : y == 10 ? 10 : y < 40 ? 11 : y < 70 ? 40 : y < 98 ? 70 : 98;
            C.is("YEAR " + y, x.tax(0, y, 1), due);
        }
        C.is("no RULES ahead of all", x.count(7), 0);
    }

    /** Term II: "openings (however they are)". */
    private static void term2Openings() {
        WindowRoll x = Checks.oneRoom(1, -1, 101, 1);
        x.held(0, 1, 0, false, false, false);
        x.appeal(0, 0);
        x.make(0, 1, 1);
        x.make(0, 2, 2);
        Checks.act(x, 0, "from 1 pay openings*10+rooms");
        C.is("all four", x.tax(0, 0, 1), 41);
    }

    /** Term II: "back, lattice (1 or 0)". */
    private static void term2BackAndLattice() {
        WindowRoll x = Checks.oneRoom(5, -5, 105, -105);
        Checks.act(x, 0, "counts back*2+lattice");
        int[] due = {0, 2, 1, 3};
        for (int o = 0; o < 4; o++) {
            C.is("OPENING " + o, x.weight(0, o, 0), due[o]);
        }
    }

    /** Term II: "count is told in from, part alone (0 else)". */
    private static void term2CountIsTold() {
        C.is("in from's SUM", tax("from 1 pay count", 7), 49);
        C.is("in add's SUM", tax("from 7 add count", 7), 7);
        C.is("in from's CONDS", tax("from 1 pay 1 when count=7", 7), 7);
        C.is("in part's SUM", tax("from 1 pay 10;part count", 7), 4);
        C.is("in part's CONDS", tax("from 1 pay 10;part 10 when count=7", 7), 7);
        C.is("0 in spare's CONDS", tax("from 1 pay 1;spare when count=0", 7), 0);
        C.is("0 in counts' SUM", weight("counts 5+count"), 5);
        C.is("0 in counts' CONDS", weight("counts 5 when count=0"), 5);
        WindowRoll x = pair("from 1 pay 1;apart when count=0");
        C.is("0 in apart's CONDS", x.due(1), 1);
        C.is("0 in apart's CONDS", pair("from 1 pay 1;apart when count>0").due(1), 0);
    }

    /** Two HOUSES under one roof, each of one OPENING. */
    private static WindowRoll pair(String text) {
        WindowRoll x = Checks.oneRoom(3);
        x.house(2, 50, 4, 1);
        Checks.room(x, 1, 1, 1, 3);
        x.roof(0, 1);
        Checks.act(x, 0, text);
        return x;
    }

    /** Term II: "panes to lattice in counts alone (0 else)". */
    private static void term2PanesAreTold() {
        WindowRoll x = new WindowRoll();
        x.house(0, 0, 1, 1);
        Checks.room(x, 0, 2, 3, -104);
        String[] names = {"panes", "kind", "floor", "back", "lattice"};
        int[] told = {4, 2, 3, 1, 1};
        for (int i = 0; i < 5; i++) {
            String name = names[i];
            Checks.act(x, 0, "counts " + name);
            C.is("counts " + name, x.weight(0, 0, 0), told[i]);
            Checks.act(x, 0, "counts 7 when " + name + "=" + told[i]);
            C.is("counts when " + name, x.weight(0, 0, 0), 7);
            Checks.act(x, 0, "from 1 pay 5+" + name);
            C.is("from " + name, x.tax(0, 0, 1), 5);
            Checks.act(x, 0, "from 1 pay 100;part 50+" + name);
            C.is("part " + name, x.tax(0, 0, 1), 50);
            Checks.act(x, 0, "from 1 pay 5;spare when " + name + ">0");
            C.is("spare when " + name, x.tax(0, 0, 1), 5);
            C.is("apart when " + name, pair("from 1 pay 1;apart when " + name + ">0").due(1), 0);
        }
    }

    /** Term II: "Values have 64 bits and go around". */
    private static void term2Around() {
        C.is("2 to the 64th is 0", sum(TWO_32 + "*" + TWO_32 + "+7"), 7);
        C.is("2 to the 63rd is below 0", holds(LEAST + "<0"), true);
        C.is("the least less 1 is above 0", holds(LEAST + "-1>0"), true);
        C.is("the greatest and 1 is the least", holds("(" + LEAST + "-1)+1=" + LEAST), true);
        C.is("0 less the least is the least", holds("0-" + LEAST + "=" + LEAST), true);
        C.is("in pay's SUM times c", tax("from 2 pay " + LEAST + "+1", 2), 2);
        C.is("in add's SUM times c", tax("from 1 add " + LEAST + "+3", 2), 6);
        C.is("pay and add together", tax("from 1 pay " + LEAST + ";from 1 add " + LEAST + "+9", 1), 9);
        C.is("times part", tax("from 1 pay " + LEAST + "+5;part 200", 1), 10);
    }

    /** Term II: "/ is cut", to 0 from either side. */
    private static void term2Cut() {
        C.is("7/2", sum("7/2"), 3);
        C.is("-7/2", sum("10+(0-7)/2"), 7);
        C.is("7/-2", sum("10+7/(0-2)"), 7);
        C.is("-7/-2", sum("(0-7)/(0-2)"), 3);
        C.is("-1/2", sum("10+(0-1)/2"), 10);
        C.is("from the left on", sum("100/7/2*3"), 21);
    }

    /** Term II: "by 0 it gives 0". */
    private static void term2ByZero() {
        C.is("5/0", sum("5/0+1"), 1);
        C.is("0/0", sum("0/0+1"), 1);
        C.is("-5/0", sum("(0-5)/(1-1)+1"), 1);
        C.is("the least by 0", sum(LEAST + "/0+1"), 1);
        C.is("in counts, by a name that is 0", weight("counts 4+9/count"), 4);
        C.is("in CONDS", holds("7/0=0"), true);
    }

    /** Term II: "the least one by -1: itself". */
    private static void term2LeastByMinusOne() {
        C.is("itself", holds(LEAST + "/(0-1)=" + LEAST), true);
        C.is("below 0", holds(LEAST + "/(0-1)<0"), true);
        C.is("another one by -1", holds("(" + LEAST + "+1)/(0-1)>0"), true);
    }

    /** Term II: < and > and = on either side of their edge. */
    private static void term2Compared() {
        String[] conds = {"4<5", "5<5", "6<5", "4>5", "5>5", "6>5", "4=5", "5=5", "6=5", LEAST + "<0", "0<" + LEAST};
        boolean[] due = {true, false, false, false, false, true, false, true, false, true, false};
        for (int i = 0; i < conds.length; i++) {
            C.is(conds[i], holds(conds[i]), due[i]);
            C.is("not " + conds[i], holds("not(" + conds[i] + ")"), !due[i]);
        }
    }

    /** Term II: "CONDS: ALL { or ALL }. ALL: COND { and COND }": all ways of three to hold. */
    private static void term2AndOr() {
        for (int way = 0; way < 8; way++) {
            boolean a = (way & 1) == 1;
            boolean b = (way & 2) == 2;
            boolean c = (way & 4) == 4;
            String p = a ? "1=1" : "1=2";
            String q = b ? "2>1" : "2<1";
            String r = c ? "3=3" : "3<3";
            C.is("or and " + way, holds(p + " or " + q + " and " + r), a || b && c);
            C.is("and or " + way, holds(p + " and " + q + " or " + r), a && b || c);
            C.is("and not " + way, holds(p + " and not(" + q + " or " + r + ")"), a && !(b || c));
            C.is("or or " + way, holds(p + " or " + q + " or " + r), a || b || c);
            C.is("and and " + way, holds(p + " and " + q + " and " + r), a && b && c);
        }
    }

    /** Term II: lesser and greater, of equal ones and of values below 0. */
    private static void term2LesserGreater() {
        C.is("lesser", sum("lesser(3,4)"), 3);
        C.is("lesser", sum("lesser(4,3)"), 3);
        C.is("greater", sum("greater(3,4)"), 4);
        C.is("greater", sum("greater(4,3)"), 4);
        C.is("equal", sum("lesser(5,5)+greater(5,5)"), 10);
        C.is("below 0", sum("lesser(0-5,2)+9"), 4);
        C.is("below 0", sum("greater(0-5,0-7)+9"), 4);
        C.is("the least", holds("lesser(" + LEAST + ",0)=" + LEAST), true);
        C.is("the least", holds("greater(" + LEAST + ",0)=0"), true);
    }

    /** Term II: "WEIGHT of an OPENING: 0 if it is EXCUSED", whatever counts tell; as it was, when it is no more. */
    private static void term2WeightExcused() {
        WindowRoll x = Checks.oneRoom(20);
        Checks.act(x, 0, "counts 5");
        x.held(0, 20, 0, false, false, false);
        C.is("not yet", x.weight(0, 0, 0), 5);
        x.appeal(0, 0);
        C.is("EXCUSED", x.weight(0, 0, 0), 0);
        C.is("in any YEAR", x.weight(0, 0, 99), 0);
        C.is("without an ACT's counts", Checks.act(x, 50, ""), 0);
        C.is("EXCUSED", x.weight(0, 0, 50), 0);
        x.overrule(0);
        C.is("no more", x.weight(0, 0, 0), 5);
        C.is("no more", x.weight(0, 0, 50), 1);
    }

    /** Term II: WEIGHT: "what the first counts tells whose CONDS hold". */
    private static void term2WeightFirst() {
        C.is("the first", weight("counts 2;counts 3"), 2);
        C.is("the first that holds", weight("counts 2 when panes<20;counts 3 when panes=20;counts 4"), 3);
        C.is("other RULES aside", weight("spare;from 0 pay 9;part 8;counts 3"), 3);
    }

    /** Term II: each kind of RULE tells what is told of it, and nothing of what is told of another kind. */
    private static void term2KindsOfRules() {
        String[] rules = {"from 0 pay 5", "from 0 add 5", "counts 5", "part 5", "spare", "apart"};
        int[] weights = {1, 1, 5, 1, 1, 1};
        int[] taxes = {5, 110, 100, 5, 0, 100};
        int[] others = {0, 0, 0, 0, 0, 1};
        for (int k = 0; k < rules.length; k++) {
            C.is("WEIGHT by " + rules[k], weight(rules[k]), weights[k]);
            C.is("TAX by " + rules[k], tax("from 0 pay 100;" + rules[k], 1), taxes[k]);
            C.is("TAX of the other one by " + rules[k], pair("from 1 pay 1;" + rules[k]).due(1), others[k]);
        }
    }

    /** Term II: WEIGHT: "(1 without one)". */
    private static void term2WeightWithout() {
        C.is("no RULES", weight(""), 1);
        C.is("no counts", weight("from 1 pay 7;part 3"), 1);
        C.is("none holds", weight("counts 5 when 1=2;counts 6 when panes>20"), 1);
    }

    /** Term II: WEIGHT: "cut to 0 .. 9". */
    private static void term2WeightCut() {
        C.is("0", weight("counts 0"), 0);
        C.is("-1", weight("counts 0-1"), 0);
        C.is("9", weight("counts 9"), 9);
        C.is("10", weight("counts 10"), 9);
        C.is("panes", weight("counts panes"), 9);
        C.is("the least", weight("counts " + LEAST), 0);
        C.is("the greatest", weight("counts " + LEAST + "-1"), 9);
        C.is("2 to the 32nd", weight("counts " + TWO_32), 9);
        C.is("2 to the 32nd below 0", weight("counts 0-" + TWO_32), 0);
    }

    /** Term II: "TAX of a COUNT c, of a HOUSE: 0 if c is 0". */
    private static void term2TaxOfZero() {
        C.is("of 0", tax("from 0 pay 5;from 0 add 7", 0), 0);
        C.is("of 1", tax("from 0 pay 5;from 0 add 7", 1), 5 + 14);
    }

    /** Term II: TAX: 0 if "some spare holds". */
    private static void term2TaxSpare() {
        C.is("without CONDS", tax("from 1 pay 5;spare", 3), 0);
        C.is("the first of two", tax("spare when 1=1;from 1 pay 5;spare when 1=2", 3), 0);
        C.is("the second of two", tax("spare when 1=2;from 1 pay 5;spare when 1=1", 3), 0);
        C.is("neither", tax("spare when 1=2;from 1 pay 5;spare when 2=1", 3), 15);
    }

    /** Term II: "of those pay whose N is not above c". */
    private static void term2TaxFrom() {
        for (int n : new int[] {1, 2, 500, 999, 1000}) {
            String text = "from " + n + " pay 3";
            C.is(text + " below", tax(text, n - 1), 0);
            C.is(text, tax(text, n), 3 * n);
            if (n < 1000) {
                C.is(text + " above", tax(text, n + 1), 3 * n + 3);
            }
        }
        C.is("from 0", tax("from 0 pay 3", 1), 3);
        C.is("from 1001", tax("from 1001 pay 3", 1000), 0);
        C.is("from 9999", tax("from 9999 pay 3", 1000), 0);
    }

    /** Term II: the pay "with the greatest N (of several the latest)" whose CONDS hold. */
    private static void term2TaxGreatest() {
        String text = "from 5 pay 1;from 3 pay 2;from 5 pay 3;from 4 pay 4;from 9 pay 5 when 1=2";
        C.is("of 2", tax(text, 2), 0);
        C.is("of 3", tax(text, 3), 6);
        C.is("of 4", tax(text, 4), 16);
        C.is("of 5, the latest", tax(text, 5), 15);
        C.is("of 9, whose CONDS hold", tax(text, 9), 27);
        C.is("of N 0 the latest", tax("from 0 pay 8;from 0 pay 9", 1), 9);
        C.is("the latest that holds", tax("from 2 pay 8;from 2 pay 9 when count=3", 2), 16);
        C.is("one that tells 0", tax("from 1 pay 8;from 2 pay 0", 2), 0);
    }

    /** Term II: "of each add likewise its SUM times (c - N + 1)". */
    private static void term2TaxAdd() {
        C.is("N is c", tax("from 4 add 10", 4), 10);
        C.is("N is above c", tax("from 4 add 10", 3), 0);
        C.is("N is below c", tax("from 4 add 10", 6), 30);
        C.is("N is 0", tax("from 0 add 10", 6), 70);
        C.is("each of them", tax("from 1 add 1;from 2 add 10;from 3 add 100;from 4 add 1000", 3), 3 + 20 + 100);
        C.is("whose CONDS hold", tax("from 1 add 1 when 1=2;from 1 add 5", 3), 15);
        C.is("with a pay", tax("from 2 pay 100;from 1 add 1;from 1 add 1", 3), 300 + 3 + 3);
    }

    /** Term II: "what the latest part tells whose CONDS hold (100 without one)". */
    private static void term2TaxPart() {
        C.is("without one", tax("from 1 pay 7", 3), 21);
        C.is("the latest", tax("from 1 pay 100;part 10;part 20", 1), 20);
        C.is("the latest that holds", tax("from 1 pay 100;part 10;part 20 when 1=2", 1), 10);
        C.is("none holds", tax("from 1 pay 100;part 20 when 1=2", 1), 100);
        C.is("ahead of what it is of", tax("part 50;from 1 pay 100;from 1 add 10", 1), 55);
        C.is("0", tax("from 1 pay 100;part 0", 1), 0);
    }

    /** Term II: "by 100 (cut)". */
    private static void term2TaxByHundred() {
        C.is("99 of 100", tax("from 1 pay 1;part 99", 1), 0);
        C.is("101 of 100", tax("from 1 pay 1;part 101", 1), 1);
        C.is("199 of 100", tax("from 1 pay 1;part 199", 1), 1);
        C.is("all of it at once", tax("from 1 pay 1;from 1 add 1;part 50", 1), 1);
    }

    /** Term II: TAX is "cut to 0 .. 1000000000". */
    private static void term2TaxCut() {
        C.is("below 0", tax("from 1 pay 0-1", 1), 0);
        C.is("0", tax("from 1 pay 0", 1), 0);
        C.is("1", tax("from 1 pay 1", 1), 1);
        C.is("the most less 1", tax("from 1 pay 1000*1000*1000-1", 1), 999999999);
        C.is("the most", tax("from 1 pay 1000*1000*1000", 1), 1000000000);
        C.is("the most and 1", tax("from 1 pay 1000*1000*1000+1", 1), 1000000000);
        C.is("2 to the 32nd", tax("from 1 pay " + TWO_32 + "+1", 1), 1000000000);
        C.is("a part of more than the most", tax("from 1 pay 1000*1000*1000*4;part 10", 1), 400000000);
        C.is("below 0, by a part below 0", tax("from 1 pay 0-5;part 0-100", 1), 5);
        C.is("the least", tax("from 1 pay " + LEAST, 1), 0);
    }

    /** Term III: "Under one roof HOUSES pay by the least one: its TAX of their COUNTS together". */
    private static void term3Together() {
        WindowRoll x = pair("from 1 pay 10+families");
        C.is("the least pays for both", x.due(0), 2 * 11);
        C.is("the other one nothing", x.due(1), 0);
        x.roof(1, 0);
        C.is("by itself", x.due(0), 11);
        C.is("by itself", x.due(1), 14);
        x.roof(1, 0);
        Checks.act(x, 0, "from 2 pay 5");
        C.is("N of the COUNTS together", x.due(0), 10);
    }

    /** Term III: "but each by itself if some apart holds of the least one", of the others or not. */
    private static void term3Apart() {
        WindowRoll x = pair("from 1 pay 10+families;apart when families=1");
        C.is("of the least", x.due(0), 11);
        C.is("of the least", x.due(1), 14);
        x = pair("from 1 pay 10+families;apart when families=4");
        C.is("of the other one alone", x.due(0), 22);
        C.is("of the other one alone", x.due(1), 0);
        x = pair("apart when 1=2;from 1 pay 10;apart when worth=0;apart when 1=2");
        C.is("some apart", x.due(1), 10);
    }

    /** Term III: spare of the least one is spare of all under its roof, unless they are apart. */
    private static void term3Spare() {
        C.is("by the least", pair("from 1 pay 10;spare when families=1").due(0), 0);
        C.is("by the least", pair("from 1 pay 10;spare when families=4").due(0), 20);
        C.is("apart", pair("from 1 pay 10;spare when families=1;apart").due(0), 0);
        C.is("apart", pair("from 1 pay 10;spare when families=1;apart").due(1), 10);
    }

    /** Promise 14: "by the ACT of a YEAR (0 .. 99)", with that YEAR as year. */
    private static void promise14Years() {
        WindowRoll x = Checks.oneRoom(1);
        Checks.act(x, 0, "counts 3 when year=0;counts 4 when year=99;counts 5");
        C.is("0", x.weight(0, 0, 0), 3);
        C.is("1", x.weight(0, 0, 1), 5);
        C.is("98", x.weight(0, 0, 98), 5);
        C.is("99", x.weight(0, 0, 99), 4);
    }

    /** Promise 14: "as if it was open". */
    private static void promise14AsIfOpen() {
        WindowRoll x = Checks.oneRoom(6);
        Checks.act(x, 0, "counts panes");
        for (int state = 0; state < 3; state++) {
            x.make(0, 0, state);
            C.is("state " + state, x.weight(0, 0, 0), 6);
        }
    }

    /** Promise 14: "-2: something is not as told". */
    private static void promise14Refused() {
        C.beyond(Towns.TOWN, "HOUSE", 0, 3, (x, house) -> x.weight(house, 0, 0), -2);
        C.beyond(Towns.TOWN, "OPENING", 0, 3, (x, opening) -> x.weight(0, opening, 0), -2);
        C.beyond(Towns.TOWN, "YEAR", 0, 99, (x, year) -> x.weight(0, 0, year), -2);
    }

    /** Promise 15: what is open (0), seen (1), open or boarded (2): each of the six ways an OPENING can be. */
    private static void promise15Which() {
        int[][] due = {{1, 1, 1}, {0, 0, 0}, {0, 0, 1}, {1, 0, 1}, {0, 0, 0}, {0, 0, 1}};
        for (int way = 0; way < 6; way++) {
            WindowRoll x = Checks.oneRoom(way < 3 ? 1 : -1);
            x.make(0, 0, way % 3);
            for (int what = 0; what < 3; what++) {
                C.is("way " + way + " what " + what, x.counted(0, 0, what), due[way][what]);
            }
        }
    }

    /** Promise 15: "COUNT of a HOUSE by itself": 0 of none, 90 at most. */
    private static void promise15Most() {
        WindowRoll x = new WindowRoll();
        x.house(0, 0, 1, 1);
        C.is("of none", x.counted(0, 0, 0), 0);
        Checks.room(x, 0, 0, 0, 30, 30, 30, 30, 30, 30, 30, 30, 30, 30);
        Checks.act(x, 0, "counts panes");
        Checks.act(x, 99, "counts year");
        for (int what = 0; what < 3; what++) {
            C.is("the most, what " + what, x.counted(0, 0, what), 90);
            C.is("in YEAR 99", x.counted(0, 99, what), 90);
        }
        x.house(0, 0, 1, 1);
        x.roof(0, 1);
        C.is("by itself", x.counted(1, 0, 0), 0);
    }

    /** Promise 15: "-2: something is not as told". */
    private static void promise15Refused() {
        C.beyond(Towns.TOWN, "HOUSE", 0, 3, (x, house) -> x.counted(house, 0, 0), -2);
        C.beyond(Towns.TOWN, "YEAR", 0, 99, (x, year) -> x.counted(0, year, 0), -2);
        C.beyond(Towns.TOWN, "what", 0, 2, (x, what) -> x.counted(0, 0, what), -2);
    }

    /** Promise 16: "for a COUNT (0 .. 1000)", whatever the HOUSE has. */
    private static void promise16Counts() {
        WindowRoll x = new WindowRoll();
        x.house(0, 0, 1, 1);
        Checks.act(x, 0, "from 0 pay 1");
        for (int count : new int[] {0, 1, 999, 1000}) {
            C.is("COUNT " + count, x.tax(0, 0, count), count);
        }
    }

    /** Promise 16: "of it alone": roofs and apart tell nothing here. */
    private static void promise16Alone() {
        WindowRoll x = pair("from 1 pay 10+families");
        C.is("the least", x.tax(0, 0, 1), 11);
        C.is("the other one", x.tax(1, 0, 1), 14);
    }

    /** Promise 16: "by the ACT of a YEAR", with that YEAR as year. */
    private static void promise16Years() {
        WindowRoll x = new WindowRoll();
        x.house(0, 0, 1, 1);
        Checks.act(x, 0, "from 0 pay year+1");
        for (int y = 0; y < 100; y++) {
            C.is("YEAR " + y, x.tax(0, y, 2), 2 * y + 2);
        }
    }

    /** Promise 16: "-2: something is not as told". */
    private static void promise16Refused() {
        C.beyond(Towns.TOWN, "HOUSE", 0, 3, (x, house) -> x.tax(house, 0, 1), -2);
        C.beyond(Towns.TOWN, "YEAR", 0, 99, (x, year) -> x.tax(0, year, 1), -2);
        C.beyond(Towns.TOWN, "COUNT", 0, 1000, (x, count) -> x.tax(0, 0, count), -2);
    }

    /** Promise 17: "if all COUNTS were those of what is open", by this YEAR's ACT. */
    private static void promise17Open() {
        WindowRoll x = Checks.oneRoom(1, -1, 1, 1);
        x.make(0, 2, 1);
        x.make(0, 3, 2);
        Checks.act(x, 0, "from 1 pay 10");
        Checks.act(x, 1, "from 1 pay 100+year");
        C.is("two are open", x.due(0), 20);
        x.go();
        C.is("the next YEAR's", x.due(0), 202);
        x.make(0, 0, 1);
        x.make(0, 1, 1);
        C.is("none is open", x.due(0), 0);
    }

    /** Promise 17: more OPENINGS together than one HOUSE's COUNT can be. */
    private static void promise17Most() {
        WindowRoll x = new WindowRoll();
        for (int h = 0; h < 16; h++) {
            x.house(0, 0, 1, 1);
            Checks.room(x, h, 0, 0, 9, 9, 9, 9, 9, 9, 9, 9, 9, 9);
            x.roof(0, h);
        }
        Checks.act(x, 0, "counts panes;from 1440 pay 1;from 1441 pay 2");
        C.is("all together", x.due(0), 1440);
        C.is("nothing", x.due(15), 0);
    }

    /** Promise 17: "(0 if it is DOWN); -2: there is none such". */
    private static void promise17Down() {
        WindowRoll x = Checks.oneRoom(1);
        Checks.act(x, 0, "from 1 pay 10");
        x.down(0);
        C.is("DOWN", x.due(0), 0);
        C.is("DOWN", Towns.TOWN.make().due(3), 0);
        C.beyond(Towns.TOWN, "HOUSE", 0, 3, (y, house) -> y.due(house), -2);
    }

    /** Promise 39: how many HOUSES "that are not DOWN (by themselves, of what is open) have a COUNT". */
    private static void promise39Heap() {
        WindowRoll x = new WindowRoll();
        C.is("no HOUSES", x.heap(0), 0);
        for (int h = 0; h < 16; h++) {
            x.house(0, 0, 1, 1);
        }
        C.is("all of them", x.heap(0), 16);
        Checks.room(x, 3, 0, 0, 30, 30, 30, 30, 30, 30, 30, 30, 30, 30);
        Checks.act(x, 0, "counts panes");
        C.is("the greatest COUNT", x.heap(90), 1);
        C.is("beyond it", x.heap(91), 0);
        x.roof(3, 4);
        C.is("by themselves", x.heap(90), 1);
        x.make(3, 0, 2);
        C.is("of what is open", x.heap(81), 1);
        x.down(3);
        C.is("DOWN", x.heap(81), 0);
        C.is("the others", x.heap(0), 15);
        C.is("the greatest number", x.heap(Integer.MAX_VALUE), 0);
    }

    /** Promise 39: "by this YEAR's ACT". */
    private static void promise39Year() {
        WindowRoll x = Checks.oneRoom(7);
        Checks.act(x, 1, "counts panes");
        C.is("YEAR 0", x.heap(1), 1);
        x.go();
        C.is("YEAR 1", x.heap(1), 0);
        C.is("YEAR 1", x.heap(7), 1);
    }

    /** Promise 39: "NONE for a COUNT below 0". */
    private static void promise39Refused() {
        C.refused(Towns.TOWN, "heap -1", x -> x.heap(-1), -1);
        C.refused(Towns.TOWN, "heap of the least", x -> x.heap(Integer.MIN_VALUE), -1);
    }
}
