/** Promises 10 to 12, 14 to 17, 43: the TAPE, ACTS, and what they tell. */
public final class ActsTest {
    private static final Checks C = new Checks();

    public static void main(String[] args) {
        tape();
        acts();
        names();
        values();
        weights();
        taxes();
        roofs();
        wrong();
        C.finish();
    }

    private static void tape() {
        WindowRoll x = new WindowRoll();
        for (int i = 1; i <= 15; i++) {
            C.is("feed", x.feed(0x20202020, 0x20202020, 0x20202020, 0x20202020, 0x20202020), 20 * i);
        }
        C.is("feed", x.feed(0, 0, 0, 0, 0), -1);
        C.is("bytes", x.count(6), 300);
        C.is("end", x.end(301), -1);
        C.is("end", x.end(-1), -1);
        C.is("end", x.end(300), 300);
        C.is("end", x.end(281), 281);
        C.is("feed", x.feed(0, 0, 0, 0, 0), -1);
        C.is("end", x.end(280), 280);
        C.is("feed", x.feed(0x0a0a2020, 0, 0, 0, 0), 300);
        C.is("the highest first", x.act(0), -4);
        C.is("fault", x.fault(), 284);
        C.is("empty", x.count(6), 0);
        C.is("end", x.end(0), 0);
        C.is("end", x.end(1), -1);
        C.is("feed", x.feed(-1, 0, 0, 0, 0), 20);
    }

    private static void acts() {
        WindowRoll x = new WindowRoll();
        x.house(0, 0, 1, 1);
        C.is("act", Checks.act(x, 100, "spare"), -2);
        C.is("the TAPE stays", x.count(6), 5);
        C.is("act", x.act(-1), -2);
        C.is("the TAPE stays", x.count(6), 5);
        C.is("no ACT", x.count(2), 0);
        C.is("act", Checks.act(x, 99, "from 1 pay 99"), 1);
        C.is("act", Checks.act(x, 10, "from 1 pay 10"), 1);
        C.is("act", Checks.act(x, 50, " "), 0);
        C.is("act", Checks.act(x, 5, "from 1 pay 5;spare when 1=2"), 2);
        int[][] due = {{0, 0}, {4, 0}, {5, 5}, {9, 5}, {10, 10}, {49, 10}, {50, 0}, {98, 0}, {99, 99}};
        for (int[] d : due) {
            C.is("tax of " + d[0], x.tax(0, d[0], 1), d[1]);
        }
        C.is("acts", x.count(2), 4);
        C.is("in place", Checks.act(x, 10, "from 1 pay 11;;"), -4);
        C.is("it stays", x.tax(0, 10, 1), 10);
        C.is("empty", x.count(6), 0);
        C.is("in place", Checks.act(x, 10, "from 1 pay 11"), 1);
        C.is("in place", x.tax(0, 10, 1), 11);
        C.is("acts", x.count(2), 4);
        C.is("rules of this YEAR's", x.count(7), 0);
        for (int i = 0; i < 5; i++) {
            x.go();
        }
        C.is("rules of this YEAR's", x.count(7), 2);
        for (int i = 0; i < 8; i++) {
            C.is("act", Checks.act(x, 60 + i, "apart"), 1);
        }
        C.is("acts", x.count(2), 12);
        C.is("a 13th", Checks.act(x, 80, "apart"), -2);
        C.is("the TAPE stays", x.count(6), 5);
        C.is("a text of 12 RULES", Checks.act(new WindowRoll(), 0, "apart" + ";apart".repeat(11)), 12);
    }

    private static void names() {
        WindowRoll x = new WindowRoll();
        x.house(1, 17, 4, 1);
        x.house(3, 9999, 9, 1);
        Checks.room(x, 0, 2, 5, 7, -103);
        Checks.room(x, 0, 0, 1, 30);
        x.make(0, 2, 2);
        x.go();
        String[] names = {"worth", "families", "street", "rooms", "openings", "year", "count", "panes",
            "kind", "floor", "back", "lattice"};
        long[] inPay = {17, 4, 1, 2, 3, 8, 6, 0, 0, 0, 0, 0};
        long[] inCounts = {9, 4, 1, 2, 3, 8, 0, 3, 2, 5, 1, 1};
        for (int i = 0; i < names.length; i++) {
            Checks.act(x, 0, "from 6 add " + names[i]);
            C.is("from " + names[i], x.tax(0, 8, 6), inPay[i]);
            Checks.act(x, 0, "part 100*" + names[i] + ";from 6 add 1");
            C.is("part " + names[i], x.tax(0, 8, 6), inPay[i]);
            Checks.act(x, 0, "from 1 pay 1 when " + names[i] + "=" + inPay[i]);
            C.is("from when " + names[i], x.tax(0, 8, 6), 6);
            Checks.act(x, 0, "from 1 pay 1;spare when " + names[i] + "=" + (i == 6 ? 0 : inPay[i]));
            C.is("spare when " + names[i], x.tax(0, 8, 6), 0);
            Checks.act(x, 0, "counts " + names[i]);
            C.is("counts " + names[i], x.weight(0, 1, 8), inCounts[i]);
            long told = i == 0 ? 17 : inCounts[i];
            Checks.act(x, 0, "counts 5 when " + names[i] + "=" + told);
            C.is("counts when " + names[i], x.weight(0, 1, 8), 5);
        }
    }

    private static long sum(WindowRoll x, String sum) {
        Checks.act(x, 0, "from 1 add " + sum);
        return x.tax(0, 0, 1);
    }

    private static void values() {
        WindowRoll x = new WindowRoll();
        x.house(1, 10000, 4, 1);
        C.is("sum", sum(x, "10-4-3"), 3);
        C.is("sum", sum(x, "10-(4-3)"), 9);
        C.is("sum", sum(x, "2+3*4"), 14);
        C.is("sum", sum(x, "100/7/2"), 7);
        C.is("sum", sum(x, "100/7*2"), 28);
        C.is("sum", sum(x, "20-7/2*3"), 11);
        C.is("cut", sum(x, "10+(0-7)/2"), 7);
        C.is("by 0", sum(x, "5/0+1"), 1);
        C.is("by 0", sum(x, "8+5/(3-3)"), 8);
        C.is("lesser", sum(x, "lesser(7,0-5)+10"), 5);
        C.is("greater", sum(x, "greater(0-5,7)+lesser(2,3)"), 9);
        C.is("digits", sum(x, "0000000000000000000009999"), 9999);
        C.is("below 0", sum(x, "5-9"), 0);
        String two32 = "(256*256*256*256)";
        C.is("around", sum(x, two32 + "*" + two32 + "+7"), 7);
        String least = "(128*256*256*256*" + two32 + ")";
        C.is("the least by -1", sum(x, least + "/(0-1)/256/256/256/256/256/256*(0-1)"), 32768);
        C.is("the least less 1", sum(x, "(" + least + "-1)/256/256/256/256/256/256"), 32767);
        Checks.act(x, 0, "counts 2 when " + least + "<0 and " + least + "-1>0");
        x.row(0, 0, 1);
        x.write(0, 0, 1);
        x.room(0, 0, 0, 0);
        C.is("conditions go around, too", x.weight(0, 0, 0), 2);
        String[] hold = {"1<2", "not(2<1)", "2>1", "1=1", "1=2 or 1=1", "1=1 or 1=2 and 1=2",
            "not(1=2 and 1=1)", "1=1 and 1=1", "not(not(1=1))", "(1)=1", "(1+1)*2=4", "1=2 or 2=1 or 3=3"};
        String[] fail = {"1<1", "1>1", "1=2", "1=1 and 1=2", "1=2 and 1=1 or 2=1", "not(1=1 or 1=2)",
            "2<1", "not(1=1) or not(2=2)"};
        for (String h : hold) {
            Checks.act(x, 0, "from 1 pay 1;spare when " + h);
            C.is(h, x.tax(0, 0, 1), 0);
        }
        for (String f : fail) {
            Checks.act(x, 0, "from 1 pay 1;spare when " + f);
            C.is(f, x.tax(0, 0, 1), 1);
        }
    }

    private static void weights() {
        WindowRoll x = new WindowRoll();
        x.house(0, 0, 1, 1);
        Checks.room(x, 0, 0, 0, 1, -12, 20, 102);
        C.is("without an ACT", x.weight(0, 3, 0), 1);
        Checks.act(x, 0, "counts 0-1 when panes=1;counts 10 when panes>10;counts 5 when panes=20");
        C.is("cut to 0", x.weight(0, 0, 0), 0);
        C.is("cut to 9", x.weight(0, 1, 0), 9);
        C.is("the first one", x.weight(0, 2, 0), 9);
        C.is("none holds", x.weight(0, 3, 0), 1);
        x.make(0, 2, 1);
        x.make(0, 3, 2);
        C.is("as if it was open", x.weight(0, 2, 0), 9);
        C.is("open", x.counted(0, 0, 0), 9);
        C.is("seen", x.counted(0, 0, 1), 0);
        C.is("open or boarded", x.counted(0, 0, 2), 10);
        Checks.act(x, 3, "counts year when year<9;counts 2;counts 3");
        C.is("year", x.weight(0, 0, 99), 2);
        C.is("year", x.weight(0, 0, 8), 8);
        C.is("year", x.counted(0, 3, 2), 9);
        x.held(0, 1, 0, false, false, false);
        C.is("EXCUSED", x.appeal(0, 0), 1);
        C.is("EXCUSED", x.weight(0, 0, 3), 0);
        C.is("EXCUSED", x.counted(0, 3, 2), 6);
        C.is("EXCUSED ones", x.count(8), 1);
        WindowRoll y = new WindowRoll();
        y.house(0, 0, 1, 1);
        Checks.room(y, 0, 0, 0, 1, -1, 101, -101);
        Checks.act(y, 0, "counts back*2+lattice*3");
        int[] due = {0, 2, 3, 5};
        for (int o = 0; o < 4; o++) {
            C.is("back and lattice", y.weight(0, o, 0), due[o]);
        }
    }

    private static void taxes() {
        WindowRoll x = new WindowRoll();
        x.house(0, 100, 1, 1);
        C.is("no ACT", x.tax(0, 0, 1000), 0);
        Checks.act(x, 0, "from 5 pay 7;from 2 pay 3;from 5 pay 4;from 9 pay 1000 when worth<100");
        C.is("0", x.tax(0, 0, 0), 0);
        C.is("1", x.tax(0, 0, 1), 0);
        C.is("2", x.tax(0, 0, 2), 6);
        C.is("4", x.tax(0, 0, 4), 12);
        C.is("the latest of several", x.tax(0, 0, 5), 20);
        C.is("whose CONDS hold", x.tax(0, 0, 1000), 4000);
        Checks.act(x, 0, "from 3 add 10;from 5 add 100;from 0 add 1;from 9 add 1000 when 1=2");
        C.is("add", x.tax(0, 0, 1), 2);
        C.is("add", x.tax(0, 0, 3), 10 + 4);
        C.is("each add", x.tax(0, 0, 6), 40 + 200 + 7);
        C.is("each add", x.tax(0, 0, 9), 70 + 500 + 10);
        Checks.act(x, 0, "from 0 pay 5;part 10;from 0 add 1;part 50;part 1 when 1=2");
        C.is("0", x.tax(0, 0, 0), 0);
        C.is("the latest part", x.tax(0, 0, 3), (15 + 4) * 50 / 100);
        Checks.act(x, 0, "from 1 pay 9999*9999;part 200 when count=10;part 9999 when count=11");
        C.is("below the most", x.tax(0, 0, 10), 1000000000);
        C.is("just below", x.tax(0, 0, 5), 499900005);
        Checks.act(x, 0, "from 1 add 9999*9999*9999*9999;part 0-1");
        C.is("0 at least", x.tax(0, 0, 1), 0);
        Checks.act(x, 0, "from 1 pay 9999*9999*9999*9999;part 9999*9999");
        long wraps = 9999L * 9999 * 9999 * 9999 * 3 * (9999 * 9999) / 100;
        C.is("around", x.tax(0, 0, 3), Math.max(0, Math.min(1000000000, wraps)));
        Checks.act(x, 0, "from 1 pay 1;spare when families=1;spare when 1=2");
        C.is("some spare", x.tax(0, 0, 3), 0);
        x.worth(0, 100, 2);
        C.is("none holds", x.tax(0, 0, 3), 3);
        Checks.act(x, 0, "spare when families=2;from 1 pay 1");
        C.is("the first RULE", x.tax(0, 0, 3), 0);
        Checks.act(x, 0, "from 9999 pay 1;from 1000 pay 2;from 999 pay 1");
        C.is("greatest", x.tax(0, 0, 1000), 2000);
        C.is("one less", x.tax(0, 0, 999), 999);
    }

    private static void roofs() {
        WindowRoll x = new WindowRoll();
        for (int i = 0; i < 4; i++) {
            x.house(0, 10 * (i + 1), 1, 1);
            Checks.room(x, i, 0, 0, i + 1, i + 1);
        }
        Checks.act(x, 0, "from 1 pay worth;counts 2 when worth=30;apart when worth=20 or count>0 or panes>0");
        C.is("due", x.due(0), 20);
        C.is("due", x.due(1), 40);
        x.roof(2, 0);
        C.is("by the least", x.due(0), 10 * 6);
        C.is("nothing", x.due(2), 0);
        C.is("by itself", x.due(3), 80);
        x.make(2, 0, 2);
        C.is("open ones", x.due(0), 10 * 4);
        x.roof(0, 2);
        x.roof(1, 2);
        C.is("apart", x.due(1), 40);
        C.is("apart", x.due(2), 60);
        x.roof(0, 1);
        C.is("apart of the least alone", x.due(0), 10 * 6);
        C.is("apart of the least alone", x.due(1), 0);
        x.down(0);
        C.is("DOWN", x.due(0), 0);
        C.is("due", x.due(4), -2);
        C.is("due", x.due(-1), -2);
    }

    private static void wrong() {
        WindowRoll x = new WindowRoll();
        x.house(0, 0, 1, 1);
        Checks.room(x, 0, 0, 0, 1);
        C.is("weight", x.weight(1, 0, 0), -2);
        C.is("weight", x.weight(-1, 0, 0), -2);
        C.is("weight", x.weight(0, 1, 0), -2);
        C.is("weight", x.weight(0, -1, 0), -2);
        C.is("weight", x.weight(0, 0, -1), -2);
        C.is("weight", x.weight(0, 0, 100), -2);
        C.is("weight", x.weight(0, 0, 99), 1);
        C.is("counted", x.counted(1, 0, 0), -2);
        C.is("counted", x.counted(0, -1, 0), -2);
        C.is("counted", x.counted(0, 100, 0), -2);
        C.is("counted", x.counted(0, 0, -1), -2);
        C.is("counted", x.counted(0, 0, 3), -2);
        C.is("tax", x.tax(1, 0, 0), -2);
        C.is("tax", x.tax(0, -1, 0), -2);
        C.is("tax", x.tax(0, 100, 0), -2);
        C.is("tax", x.tax(0, 0, -1), -2);
        C.is("tax", x.tax(0, 0, 1001), -2);
        C.is("tax", x.tax(0, 99, 1000), 0);
    }
}
