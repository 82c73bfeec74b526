/** Promise 13, and of 12, 34 and 38 what is read: where texts have their FAULT. */
public final class FaultTest {
    private static final Checks C = new Checks();

    public static void main(String[] args) {
        acts();
        asked();
        latest();
        C.finish();
    }

    private static void act(String text, int fault) {
        WindowRoll x = new WindowRoll();
        int answer = Checks.act(x, 0, text);
        C.is("fault of " + text, x.fault(), fault);
        C.is("answer to " + text, answer == -4, fault != -1);
        C.is("tape behind " + text, x.count(6), 0);
        C.is("beside " + text, Checks.beside(x, 1, 0, text), fault == -1 ? 0 : -4);
        C.is("fault beside of " + text, x.fault(), fault);
    }

    private static void ask(String text, int fault) {
        WindowRoll x = new WindowRoll();
        int answer = Checks.ask(x, 0, text);
        C.is("fault of " + text, x.fault(), fault);
        C.is("answer to " + text, answer, fault == -1 ? 0 : -4);
        C.is("tape behind " + text, x.count(6), 0);
    }

    private static void acts() {
        act("", -1);
        act("  \n ", -1);
        act("spare", -1);
        act("\n spare \n", -1);
        act("\tspare", 0);
        act("spare\r", 5);
        act("sparE", 0);
        act("spar", 0);
        act("spares", 0);
        act("spare spare", 6);
        act(";", 0);
        act("spare;;spare", 6);
        act("spare; ;spare", 7);
        act("spare ; ", 8);
        act("from1pay2when1=1", -1);
        act("from 1pay2", -1);
        act("from1add2;counts3;part4;spare;apart", -1);
        act("fr om", 0);
        act("from x", 5);
        act("from", 4);
        act("from  ", 6);
        act("from 9999 pay 1", -1);
        act("from 10000 pay 1", 5);
        act("from 99999999999999999999 pay 1", 5);
        act("from 0000000000000009999 pay 1", -1);
        act("from 1+1 pay 1", 6);
        act("from 1 counts 1", 7);
        act("from 1 1", 7);
        act("from 1 pay", 10);
        act("from 1 pay ;", 11);
        act("from 1 pay when", 11);
        act("from 1 pay -1", 11);
        act("from 1 pay 1 1", 13);
        act("from 1 pay 1 worth", 13);
        act("from 1 pay 1+", 13);
        act("from 1 pay 1+;", 13);
        act("from 1 pay 1*/2", 13);
        act("from 1 pay 1.5", 12);
        act("from 1 pay 1,5", 12);
        act("from 1 pay )", 11);
        act("from 1 pay ()", 12);
        act("from 1 pay (1", 13);
        act("from 1 pay (1))", 14);
        act("from 1 pay (1,1)", 13);
        act("from 1 pay (1<1)", 13);
        act("from 1 pay tax", 11);
        act("from 1 pay house", 11);
        act("from 1 pay known", 11);
        act("from 1 pay how", 11);
        act("from 1 pay collector", 11);
        act(";".repeat(300), 0);
        act("from 1 pay spare", 11);
        act("from 1 pay not", 11);
        act("from 1 pay worth+families*street-rooms/openings+year-count", -1);
        act("from 1 pay panes+kind+floor+back+lattice", -1);
        act("from 1 pay lesser", 17);
        act("from 1 pay lesser 1", 18);
        act("from 1 pay lesser(1)", 19);
        act("from 1 pay lesser(1;2)", 19);
        act("from 1 pay lesser(1,2,3)", 21);
        act("from 1 pay lesser(1,2", 21);
        act("from 1 pay greater(1,lesser(2,3))", -1);
        act("from 1 pay least(1,2)", 11);
        act("counts", 6);
        act("counts 10000", 7);
        act("part", 4);
        act("spare 1", 6);
        act("apart 1", 6);
        act("spare when", 10);
        act("spare when 1", 12);
        act("spare when 1<", 13);
        act("spare when 1<2<3", 14);
        act("spare when 1<=2", 13);
        act("spare when <2", 11);
        act("spare when (1<2)", 13);
        act("spare when (1)<2", -1);
        act("spare when not", 14);
        act("spare when not 1<2", 15);
        act("spare when not(1)", 16);
        act("spare when not(1<2", 18);
        act("spare when not(1<2))", 19);
        act("spare when not(not(1<2) and 1=1) or 2>1", -1);
        act("spare when 1<2 and", 18);
        act("spare when 1<2 and or", 19);
        act("spare when 1<2 when 1<2", 15);
        act("spare when 1<2 where 1<2", 15);
        act("spare where 1<2", 6);
        act("spare by year", 6);
        act("spare #", 6);
        act("spare # ;;", 6);
        act("spare ;; #", 7);
        act("spare when count=" + (char) 233, 17);
        parentheses();
        String twelve = "spare" + ";spare".repeat(11);
        act(twelve, -1);
        act(twelve + ";", 72);
        act(twelve + "; ", 73);
        act(twelve + ";spare", 72);
        act(twelve + ";#", 72);
        act(twelve + "#", 71);
        act("spare" + " ".repeat(295), -1);
        act(" ".repeat(295) + "spare", -1);
        act(" ".repeat(296) + "spar", 296);
        act("from 1 pay 1" + "+1".repeat(144), -1);
        act("spare when 1=1" + " or 1=1".repeat(40), -1);
    }

    private static void parentheses() {
        act("part " + "(".repeat(8) + "1" + ")".repeat(8), -1);
        act("part " + "(".repeat(9) + "1" + ")".repeat(9), 13);
        act("part " + "(".repeat(8) + "1" + ")".repeat(8) + "+" + "(".repeat(8) + "1" + ")".repeat(8), -1);
        act("part " + "lesser(1,".repeat(8) + "1" + ")".repeat(8), -1);
        act("part " + "lesser(1,".repeat(9) + "1" + ")".repeat(9), 5 + 9 * 8 + 6);
        act("part " + "greater(".repeat(8) + "1" + ",1)".repeat(8), -1);
        act("spare when " + "not(".repeat(8) + "1=1" + ")".repeat(8), -1);
        act("spare when " + "not(".repeat(9) + "1=1" + ")".repeat(9), 11 + 4 * 8 + 3);
        act("spare when " + "not(".repeat(4) + "((((1))))=1" + ")".repeat(4), -1);
        act("spare when " + "not(".repeat(4) + "(((((1)))))=1" + ")".repeat(4), 11 + 16 + 4);
        act("spare when not(1=((((((((1)))))))))", 11 + 6 + 7);
        act("part " + "(".repeat(9), 13);
        act("part " + "(".repeat(8), 13);
        act("part " + "(".repeat(290), 13);
    }

    private static void asked() {
        ask("", 0);
        ask("  ", 2);
        ask("number", -1);
        ask("number count", 7);
        ask("number where 1=1", -1);
        ask("number by house", -1);
        ask("number where 1=1 by house", -1);
        ask("number by house where 1=1", 16);
        ask("number by", 9);
        ask("number by 1", 10);
        ask("number by panes", 10);
        ask("number by families", 10);
        ask("number by by", 10);
        ask("number by house+1", 15);
        ask("number when 1=1", 7);
        ask("number where", 12);
        ask("number;", 6);
        ask("numbers", 0);
        ask("sum", 3);
        ask("sum by house", 4);
        ask("sum count count", 10);
        ask("sum house+street+year+count+known+how+collector+worth+tax", -1);
        for (String name : new String[] {"house", "street", "year", "count", "known", "how", "collector",
            "worth", "tax"}) {
            ask("least " + name + " where " + name + ">0 by " + name, -1);
        }
        for (String name : new String[] {"families", "rooms", "openings", "panes", "kind", "floor", "back",
            "lattice", "number", "sum"}) {
            ask("sum " + name, 4);
        }
        ask("least lesser(1,2)", -1);
        ask("greatest greater(1,2)*10000", 22);
        ask("greatest " + "(".repeat(8) + "1" + ")".repeat(8), -1);
        ask("greatest " + "(".repeat(9) + "1" + ")".repeat(9), 17);
        ask("number where " + "(".repeat(8) + "1" + ")".repeat(8) + "=1", -1);
        ask("number where " + "(".repeat(9) + "1" + ")".repeat(9) + "=1", 21);
        ask("greater 1", 0);
        ask("spare", 0);
        ask("sum 1,", 5);
    }

    private static void latest() {
        WindowRoll x = new WindowRoll();
        Checks.act(x, 0, "spare #");
        C.is("fault", x.fault(), 6);
        Checks.act(x, 100, "#");
        C.is("not read", x.fault(), 6);
        x.ask(1);
        C.is("not read", x.fault(), 6);
        x.ask(-1);
        C.is("not read", x.fault(), 6);
        x.beside(0, 0);
        x.beside(11, 0);
        x.beside(1, -1);
        x.beside(1, 5);
        C.is("not read", x.fault(), 6);
        C.is("the TAPE stays", x.count(6), 1);
        x.beside(1, 0);
        C.is("read", x.fault(), 0);
        Checks.ask(x, 0, "number  1");
        C.is("read", x.fault(), 8);
        Checks.ask(x, 0, "number");
        C.is("none", x.fault(), -1);
    }
}
