/** The edges of Term VIII and of promises 34 and 35: what is ASKED of the ROLL. */
public final class AskEdgesTest {
    private static final Checks C = new Checks();

    public static void main(String[] args) throws Exception {
        C.runAll(AskEdgesTest.class);
    }

    /** HOUSES 0 (STREET 2, WORTH 40) and 1 (STREET 1, WORTH 30) at YEAR 3, with five LINES that tell. */
    private static WindowRoll asked() {
        WindowRoll x = new WindowRoll();
        x.house(2, 40, 1, 1);
        x.house(1, 30, 1, 1);
        Checks.room(x, 0, 0, 0, 1, -1);
        Checks.room(x, 1, 0, 0, 1, 1, 1);
        Checks.act(x, 0, "from 1 pay 10");
        Checks.act(x, 1, "from 1 pay worth;from 3 pay 1");
        x.walk(3, 2);
        x.walk(1, 1);
        x.go();
        x.look(2, 0);
        x.late(1, 0, 9);
        x.go();
        x.late(1, 1, 1000);
        x.go();
        x.late(0, 2, 0);
        return x;
    }

    private static void answers(WindowRoll x, int known, String text, long... due) {
        C.is(text, Checks.ask(x, known, text), due.length / 3);
        for (int i = 0; i < due.length; i++) {
            C.is(text + ": answer " + i / 3 + " what " + i % 3, x.answer(i / 3, i % 3), due[i]);
        }
        for (int what = 0; what < 3; what++) {
            C.is(text + ": no more", x.answer(due.length / 3, what), 0);
        }
    }

    private static void fault(String text, int fault) {
        WindowRoll x = asked();
        C.is("answer to " + text, Checks.ask(x, 0, text) < 0 ? -4 : 0, fault == -1 ? 0 : -4);
        C.is("fault of " + text, x.fault(), fault);
        C.is("TAPE behind " + text, x.count(6), 0);
    }

    /** Term VIII: "WHAT [where CONDS] [by NAME]", in that order. */
    private static void term8Text() {
        fault("number", -1);
        fault("number where 1=1", -1);
        fault("number by year", -1);
        fault("number where 1=1 by year", -1);
        fault("number by year where 1=1", 15);
        fault("number where 1=1 where 1=1", 17);
        fault("number by year by year", 15);
        fault("where 1=1", 0);
        fault("by year", 0);
        fault("", 0);
        fault(" \n", 2);
        fault("number;", 6);
        fault("number;number", 6);
        fault("spare", 0);
        fault("number when 1=1", 7);
        fault("number where", 12);
        fault("number where 1", 14);
        fault("number where count", 18);
        fault("number by", 9);
    }

    /** Term VIII: "WHAT: number | sum SUM | least SUM | greatest SUM". */
    private static void term8What() {
        fault("number 1", 7);
        fault("number count", 7);
        for (String what : new String[] {"sum", "least", "greatest"}) {
            int n = what.length();
            fault(what, n);
            fault(what + " ", n + 1);
            fault(what + " 1", -1);
            fault(what + " count*2+1", -1);
            fault(what + " where 1=1", n + 1);
            fault(what + " by year", n + 1);
            fault(what + " 1=1", n + 2);
            fault(what + " 10000", n + 1);
            fault(what + " 9999", -1);
        }
        fault("lesser 1", 0);
        fault("greater 1", 0);
        fault("sums 1", 0);
        fault("count", 0);
    }

    /** Term VIII: "Names: house, street, year, count, known, how, collector, worth, tax", and no others. */
    private static void term8Names() {
        for (String name : new String[] {"house", "street", "year", "count", "known", "how", "collector", "worth",
            "tax"}) {
            fault("sum " + name, -1);
            fault("number where " + name + "=1", -1);
            fault("number by " + name, -1);
        }
        for (String none : new String[] {"families", "rooms", "openings", "panes", "kind", "floor", "back", "lattice",
            "number", "sum", "least", "greatest", "where", "by", "and", "x"}) {
            fault("sum " + none, 4);
            fault("number where " + none + "=1", 13);
            fault("number by " + none, 10);
        }
    }

    /** Term VIII: "NAME: one of these", not a SUM. */
    private static void term8Name() {
        fault("number by 1", 10);
        fault("number by (year)", 10);
        fault("number by year+1", 14);
        fault("number by year,house", 14);
        fault("number by year house", 15);
    }

    /** Term VIII: what each Name tells, by the LINE that tells of each HOUSE and YEAR. */
    private static void term8Told() {
        WindowRoll x = asked();
        answers(x, 3, "number by house", 0, 3, 3, 1, 2, 2);
        answers(x, 3, "number by street", 1, 2, 2, 2, 3, 3);
        answers(x, 3, "number by year", 0, 2, 2, 1, 2, 2, 2, 1, 1);
        answers(x, 3, "number by count", 0, 1, 1, 1, 1, 1, 2, 1, 1, 9, 1, 1, 1000, 1, 1);
        answers(x, 3, "number by known", 0, 1, 1, 1, 2, 2, 2, 1, 1, 3, 1, 1);
        answers(x, 3, "number by how", 0, 1, 1, 1, 1, 1, 2, 3, 3);
        answers(x, 3, "number by collector", -1, 3, 3, 2, 1, 1, 3, 1, 1);
        answers(x, 3, "number by worth", 30, 2, 2, 40, 3, 3);
        answers(x, 3, "number by tax", 0, 1, 1, 10, 1, 1, 80, 1, 1, 90, 1, 1, 1000, 1, 1);
    }

    /** Term VIII: tax is "TAX of that HOUSE alone for that COUNT by the ACT of that YEAR, as it is now". */
    private static void term8Tax() {
        WindowRoll x = asked();
        x.roof(0, 1);
        answers(x, 3, "sum tax by house", 0, 10 + 80, 3, 1, 90 + 1000, 2);
        x.worth(0, 41, 1);
        x.down(0);
        answers(x, 3, "sum tax by house", 0, 10 + 82, 3, 1, 90 + 1000, 2);
        Checks.act(x, 0, "from 1 pay year+5");
        answers(x, 3, "sum tax by year", 0, 50, 2, 1, 82 + 1000, 2, 2, 0, 1);
    }

    /** Term VIII: asked "of what tells of each HOUSE and YEAR, as known". */
    private static void term8Known() {
        WindowRoll x = asked();
        answers(x, 0, "sum count", 0, 1 + 3, 2);
        answers(x, 1, "sum count", 0, 1 + 9 + 2, 3);
        answers(x, 2, "sum count", 0, 1 + 9 + 2 + 1000, 4);
        answers(x, 3, "sum count", 0, 1 + 9 + 2 + 1000, 5);
    }

    /** Term VIII: this YEAR's LINES are asked of, too, and those of the last HOUSE in the last YEAR. */
    private static void term8ThisYear() {
        WindowRoll x = new WindowRoll();
        for (int h = 0; h < 16; h++) {
            x.house(h / 8, h, 1, 1);
        }
        x.walk(0, 0);
        answers(x, 0, "number by year", 0, 8, 8);
        Checks.go(x, 99);
        x.walk(0, 1);
        x.late(15, 0, 7);
        answers(x, 99, "number by year", 0, 9, 9, 99, 8, 8);
        answers(x, 99, "sum count where house=15 by year", 0, 7, 1, 99, 0, 1);
        answers(x, 98, "number", 0, 8, 8);
    }

    /** Term VIII: key "0 without" a NAME; no key at all if there is none for which the CONDS hold. */
    private static void term8NoKey() {
        WindowRoll x = asked();
        answers(x, 3, "number", 0, 5, 5);
        answers(x, 3, "number where count=9", 0, 1, 1);
        answers(x, 3, "number where count=10");
        answers(x, 3, "sum count where 1=2 by house");
        answers(new WindowRoll(), 0, "number");
        answers(x, 3, "number where house=1 by house", 1, 2, 2);
    }

    /** Term VIII: keys are "rising", those below 0 first. */
    private static void term8Rising() {
        WindowRoll x = new WindowRoll();
        x.house(0, 900, 1, 1);
        x.house(0, 5, 1, 1);
        x.house(0, 70, 1, 1);
        x.walk(2, 0);
        x.go();
        x.late(1, 0, 3);
        answers(x, 1, "number by worth", 5, 1, 1, 70, 1, 1, 900, 1, 1);
        answers(x, 1, "number by collector", -1, 1, 1, 2, 2, 2);
    }

    /** Term VIII: "how many, their sum, the least, the greatest", of values below 0, too. */
    private static void term8Values() {
        WindowRoll x = asked();
        answers(x, 3, "number where year<2", 0, 4, 4);
        answers(x, 3, "sum 5-count where year=0", 0, 4 - 4, 2);
        answers(x, 3, "least 5-count by house", 0, 3, 3, 1, -995, 2);
        answers(x, 3, "greatest 5-count by house", 0, 5, 3, 1, -4, 2);
        answers(x, 3, "least 0-count where year=1", 0, -1000, 2);
        answers(x, 3, "greatest 0-count where count>1", 0, -2, 3);
        answers(x, 3, "sum count/0", 0, 0, 5);
    }

    /** Term VIII: a sum goes around in 64 bits, as all values do. */
    private static void term8Around() {
        String half = "(128*256*256*256*256*256*256*256)";
        WindowRoll x = asked();
        answers(x, 3, "sum " + half + "+1 where house=1", 0, 2, 2);
        answers(x, 3, "sum " + half + " where house=0", 0, Long.MIN_VALUE, 3);
        answers(x, 3, "greatest " + half + "-1", 0, Long.MAX_VALUE, 5);
        answers(x, 3, "least " + half, 0, Long.MIN_VALUE, 5);
        answers(x, 3, "number where " + half + "/(0-1)=" + half, 0, 5, 5);
    }

    /** Objects with so many keys of count, from 0 on: each of a HOUSE and YEAR of its own. */
    private static WindowRoll keys(int n, boolean falling) {
        WindowRoll x = new WindowRoll();
        for (int h = 0; h < 3; h++) {
            x.house(0, 0, 1, 1);
        }
        Checks.go(x, 80);
        for (int i = 0; i < n; i++) {
            int key = falling ? n - 1 - i : i;
            x.late(i % 3, i / 3, key);
        }
        return x;
    }

    /** Term VIII: "200 keys at most, the least ones", in whatever order they come. */
    private static void term8Keys() {
        for (int n : new int[] {199, 200, 201, 220}) {
            for (int way = 0; way < 2; way++) {
                WindowRoll x = keys(n, way == 1);
                int most = Math.min(200, n);
                C.is(n + " keys", Checks.ask(x, 80, "sum count*3 by count"), most);
                for (int i = 0; i < most; i++) {
                    C.is("key", x.answer(i, 0), i);
                    C.is("value", x.answer(i, 1), 3 * i);
                    C.is("LINES", x.answer(i, 2), 1);
                }
                C.is("no more", x.answer(most, 0), 0);
                C.is("no more", x.answer(most, 2), 0);
            }
        }
    }

    /** Term VIII: of the 200 keys none has lost a LINE to those that are left out. */
    private static void term8KeysWhole() {
        WindowRoll x = keys(220, true);
        x.late(0, 79, 0);
        x.late(1, 79, 199);
        x.late(2, 79, 200);
        C.is("keys", Checks.ask(x, 80, "number by count"), 200);
        C.is("the first", x.answer(0, 1), 2);
        C.is("the last", x.answer(199, 1), 2);
        C.is("the last", x.answer(199, 0), 199);
    }

    /** Promise 34: "by what was known at the end of a YEAR (0 .. this one)": "-2, and the TAPE stays: another YEAR". */
    private static void promise34Years() {
        for (int known = 0; known < 4; known++) {
            C.is("YEAR " + known, Checks.ask(asked(), known, "number"), 1);
        }
        C.beyond(Towns.TOWN, "YEAR", 0, 2, (x, known) -> x.ask(known), -2);
        C.beyond(Towns.CENTURY, "YEAR", 0, 99, (x, known) -> x.ask(known), -2);
        C.is("YEAR 99", Checks.ask(Towns.CENTURY.make(), 99, "number"), 1);
    }

    /** Promise 34: "(empty then)". */
    private static void promise34Empty() {
        WindowRoll x = asked();
        Checks.ask(x, 0, "number");
        C.is("read", x.count(6), 0);
        C.is("nothing is left to ask", x.ask(0), -4);
        C.is("at its end", x.fault(), 0);
    }

    /** Promise 34: "-4: it has a FAULT (the answers that there were stay)", and all else but the TAPE. */
    private static void promise34Faulty() {
        C.faulty(Towns.FULL, "blanks", x -> x.ask(0), -4);
        C.faulty(Towns.TOWN, "sum", x -> Checks.ask(x, 0, "sum"), -4);
        C.faulty(Towns.TOWN, "a FAULT at its end", x -> Checks.ask(x, 0, "number by year)"), -4);
    }

    /** Promise 34: what is told stays, whatever is done later. */
    private static void promise34Stays() {
        WindowRoll x = asked();
        Checks.ask(x, 3, "sum count by house");
        x.late(0, 0, 77);
        x.down(0);
        x.go();
        C.is("the key", x.answer(1, 0), 1);
        C.is("the value", x.answer(0, 1), 3);
        C.is("the LINES", x.answer(0, 2), 3);
    }

    /** Promise 35: "0 its key, 1 its value, 2 of how many LINES". */
    private static void promise35What() {
        WindowRoll x = asked();
        Checks.ask(x, 3, "greatest count by house");
        C.is("key", x.answer(1, 0), 1);
        C.is("value", x.answer(1, 1), 1000);
        C.is("LINES", x.answer(1, 2), 2);
    }

    /** Promise 35: "0 for others". */
    private static void promise35Others() {
        WindowRoll x = asked();
        C.is("ahead of any", x.answer(0, 1), 0);
        Checks.ask(x, 3, "number by house");
        for (int what : Checks.beyond(0, 2)) {
            C.is("what " + what, x.answer(1, what), 0);
        }
        for (int what = 0; what < 3; what++) {
            for (int i : Checks.beyond(0, 1)) {
                C.is("answer " + i, x.answer(i, what), 0);
            }
        }
        Checks.ask(x, 3, "number where 1=2");
        C.is("of none", x.answer(0, 1), 0);
    }

    /** Promise 35: "of the latest ask() that told how many", none as well. */
    private static void promise35Latest() {
        WindowRoll x = asked();
        Checks.ask(x, 3, "number by year");
        Checks.ask(x, 4, "sum count");
        Checks.ask(x, 3, "sum");
        C.is("it stays", x.answer(2, 0), 2);
        Checks.ask(x, 3, "sum count");
        C.is("a shorter one", x.answer(1, 2), 0);
        C.is("a shorter one", x.answer(0, 2), 5);
    }
}
