/** The edges of promises 10 to 13 and of what Term II tells of texts: TOKENS, RULES, N, and the FAULT. */
public final class TextEdgesTest {
    private static final Checks C = new Checks();
    private static final int BLANKS = 0x20202020;

    public static void main(String[] args) throws Exception {
        C.runAll(TextEdgesTest.class);
    }

    /** Promise 10: "Twenty bytes come behind the TAPE": how many it has. */
    private static void promise10HowMany() {
        WindowRoll x = new WindowRoll();
        for (int k = 1; k <= 15; k++) {
            C.is("feed", x.feed(BLANKS, BLANKS, BLANKS, BLANKS, BLANKS), 20 * k);
            C.is("bytes", x.count(6), 20 * k);
        }
    }

    /** Promise 10: "of each number the highest first"; the place of the first byte that is none tells. */
    private static void promise10HighestFirst() {
        for (int at = 0; at < 20; at++) {
            int[] n = {BLANKS, BLANKS, BLANKS, BLANKS, BLANKS};
            n[at / 4] = BLANKS & ~(255 << 24 - at % 4 * 8) | '#' << 24 - at % 4 * 8;
            WindowRoll x = new WindowRoll();
            x.feed(n[0], n[1], n[2], n[3], n[4]);
            C.is("act", x.act(0), -4);
            C.is("byte " + at, x.fault(), at);
        }
    }

    /** Promise 10: numbers below 0 have bytes from 128 on, which are no others. */
    private static void promise10BelowZero() {
        for (int high : new int[] {128, 160, 138, 225, 250, 255}) {
            for (int at = 0; at < 4; at++) {
                WindowRoll x = new WindowRoll();
                int n = BLANKS & ~(255 << 24 - at * 8) | high << 24 - at * 8;
                C.is("feed", x.feed(n, BLANKS, BLANKS, BLANKS, BLANKS), 20);
                C.is("no TOKEN", x.act(0), -4);
                C.is("at " + at, x.fault(), at);
            }
        }
    }

    /** Promise 10: bytes come behind those that are there. */
    private static void promise10Behind() {
        WindowRoll x = new WindowRoll();
        Checks.tape(x, "apart;");
        C.is("feed", x.feed(0x73706172, 0x65202020, BLANKS, BLANKS, BLANKS), 26);
        C.is("two RULES", x.act(0), 2);
    }

    /** Promise 10: "NONE, and none come, if it would have more than 300". */
    private static void promise10Full() {
        C.refused(Towns.FULL, "at 300", x -> x.feed(0, 0, 0, 0, 0), -1);
        WindowRoll x = Towns.FULL.make();
        x.end(281);
        C.is("at 281", x.feed(0, 0, 0, 0, 0), -1);
        C.is("none came", x.count(6), 281);
        x.end(280);
        C.is("at 280", x.feed(0, 0, 0, 0, 0), 300);
    }

    /** Promise 11: "The TAPE has its first n bytes alone: n". */
    private static void promise11First() {
        WindowRoll x = new WindowRoll();
        Checks.tape(x, "spare;#");
        C.is("all of them", x.end(7), 7);
        C.is("bytes", x.count(6), 7);
        C.is("five", x.end(5), 5);
        C.is("bytes", x.count(6), 5);
        C.is("the first ones", x.act(0), 1);
        C.is("none", x.end(0), 0);
        Checks.tape(x, "spare");
        C.is("none", x.end(0), 0);
        C.is("none are left", x.count(6), 0);
        C.is("no RULES", x.act(0), 0);
    }

    /** Promise 11: "NONE, and nothing happens, if it has not so many, or n is below 0". */
    private static void promise11Refused() {
        C.beyond(Towns.TOWN, "end", 0, 14, (x, n) -> x.end(n), -1);
        C.beyond(Towns.FULL, "end", 0, 300, (x, n) -> x.end(n), -1);
        C.refused(Towns.CENTURY, "end 1 of none", x -> x.end(1), -1);
    }

    /** Promise 11: what was cut off does not come again. */
    private static void promise11Gone() {
        WindowRoll x = new WindowRoll();
        Checks.tape(x, "spare");
        x.end(2);
        C.is("the rest is gone", x.end(5), -1);
        C.is("bytes", x.count(6), 2);
    }

    /** Promise 12: "the ACT from a YEAR on (0 .. 99)". */
    private static void promise12Years() {
        for (int from : new int[] {0, 1, 98, 99}) {
            WindowRoll x = Checks.oneRoom(1);
            C.is("act " + from, Checks.act(x, from, "from 1 pay 1"), 1);
            for (int y = 0; y < 100; y++) {
                C.is("YEAR " + y, x.tax(0, y, 1), y < from ? 0 : 1);
            }
        }
    }

    /** Promise 12: "(empty then)". */
    private static void promise12Empty() {
        WindowRoll x = new WindowRoll();
        Checks.act(x, 0, "spare");
        C.is("read", x.count(6), 0);
        Checks.act(x, 0, "spar");
        C.is("with a FAULT", x.count(6), 0);
    }

    /** Promise 12: "in place of one from that YEAR", which is no other one then. */
    private static void promise12InPlace() {
        WindowRoll x = Checks.oneRoom(1);
        Checks.act(x, 5, "from 1 pay 1;apart;apart");
        Checks.act(x, 7, "from 1 pay 2");
        C.is("act", Checks.act(x, 5, "from 1 pay 3"), 1);
        C.is("ACTS", x.count(2), 2);
        C.is("the new one", x.tax(0, 5, 1), 3);
        C.is("the other one", x.tax(0, 7, 1), 2);
        C.is("nothing in place", Checks.act(x, 5, ""), 0);
        C.is("ACTS", x.count(2), 2);
        C.is("no RULES", x.tax(0, 5, 1), 0);
    }

    /** Promise 12: "how many RULES", 0 to 12. */
    private static void promise12Rules() {
        for (int rules = 0; rules <= 12; rules++) {
            WindowRoll x = new WindowRoll();
            C.is("RULES", Checks.act(x, 0, rules(rules)), rules);
            C.is("RULES of this YEAR's", x.count(7), rules);
            C.is("ACTS", x.count(2), 1);
        }
    }

    private static String rules(int n) {
        return n == 0 ? "" : "apart" + ";spare".repeat(n - 1);
    }

    /** Promise 12: "-2, and the TAPE stays: another YEAR". */
    private static void promise12Refused() {
        C.beyond(Towns.TOWN, "act", 0, 99, (x, from) -> x.act(from), -2);
    }

    /** Promise 12: -2, and the TAPE stays: "12 are there" (even if one of them is from that YEAR). */
    private static void promise12Twelve() {
        WindowRoll x = Checks.oneRoom(1);
        for (int a = 0; a < 12; a++) {
            C.is("ACT " + a, Checks.act(x, 3 * a, "from 1 pay " + a), 1);
            C.is("ACTS", x.count(2), a + 1);
        }
        for (int a = 0; a < 12; a++) {
            C.is("each of them holds", x.tax(0, 3 * a, 1), a);
        }
        C.refused(Towns.FULL, "a 13th", y -> y.act(1), -2);
        C.refused(Towns.FULL, "a 13th in place", y -> y.act(0), -2);
    }

    /** Promise 12: "-4: it has a FAULT (nothing but the TAPE changes)". */
    private static void promise12Faulty() {
        C.faulty(Towns.TOWN, "act 1", x -> x.act(1), -4);
        C.faulty(Towns.TOWN, "act in place", x -> x.act(2), -4);
    }

    /** Promise 13: "NONE without one, and ahead of any". */
    private static void promise13None() {
        WindowRoll x = new WindowRoll();
        C.is("ahead of any", x.fault(), -1);
        Checks.act(x, 0, "spare 1");
        C.is("of act()", x.fault(), 6);
        Checks.act(x, 0, "spare");
        C.is("without one", x.fault(), -1);
        Checks.ask(x, 0, "number 1");
        C.is("of ask()", x.fault(), 7);
        Checks.ask(x, 0, "number");
        C.is("without one", x.fault(), -1);
        Checks.beside(x, 1, 0, "apart  1");
        C.is("of beside()", x.fault(), 7);
        Checks.beside(x, 1, 0, "apart");
        C.is("without one", x.fault(), -1);
    }

    /** Promise 13: of the latest "that read its TAPE": one that was answered by -2 did not. */
    private static void promise13NotRead() {
        C.refused(Towns.TOWN, "act", x -> x.act(-1), -2);
        C.refused(Towns.TOWN, "ask", x -> x.ask(3), -2);
        C.refused(Towns.TOWN, "beside", x -> x.beside(11, 0), -2);
        C.refused(Towns.TOWN, "beside", x -> x.beside(1, 5), -2);
        C.refused(Towns.FULL, "act", x -> x.act(1), -2);
    }

    /** The FAULT of a text as ACT and as ACT BESIDE; NONE if it has none. */
    private static void act(String text, int fault) {
        WindowRoll x = new WindowRoll();
        int answer = Checks.act(x, 0, text);
        C.is("fault of " + text, x.fault(), fault);
        C.is("answer to " + text, answer < 0 ? answer : 0, fault == -1 ? 0 : -4);
        C.is("ACTS behind " + text, x.count(2), fault == -1 ? 1 : 0);
        C.is("beside " + text, Checks.beside(x, 1, 0, text), fault == -1 ? 0 : -4);
        C.is("fault beside of " + text, x.fault(), fault);
    }

    private static void ask(String text, int fault) {
        WindowRoll x = new WindowRoll();
        C.is("answer to " + text, Checks.ask(x, 0, text), fault == -1 ? 0 : -4);
        C.is("fault of " + text, x.fault(), fault);
    }

    /** Term II: "blanks (32, 10) aside", and no other byte. */
    private static void term2Blanks() {
        for (int b = 0; b < 256; b++) {
            boolean blank = b == 32 || b == 10;
            act((char) b + "spare", blank ? -1 : 0);
            act("spare " + (char) b, blank ? -1 : b == ';' ? 7 : 6);
        }
        act("\n \n", -1);
        act(" from\n1 pay\n\n2 ", -1);
    }

    /** Term II: TOKENS are "the longest that begin there". */
    private static void term2Longest() {
        act("fromm 1 pay 1", 0);
        act("from 1 payy 1", 7);
        act("from 1pay1", -1);
        act("from1pay1add", 9);
        act("from 1 pay 99 99", 14);
        act("from 1 pay 9999", -1);
        act("from 1 pay 99990", 11);
        act("from 1 pay 99 990", 14);
        act("sparewhen 1=1", 0);
        act("spare when1=1and2=2or3=3", -1);
        act("spare when not(1=1)and2=2", -1);
    }

    /** Term II: "words (a .. z)": no other letters, and none of a and z is left out. */
    private static void term2Letters() {
        act("Spare", 0);
        act("spArE", 0);
        act("spare`", 5);
        act("spare{", 5);
        act("sparea", 0);
        act("sparez", 0);
        act("from 1 pay lattice+kind", -1);
    }

    /** Term II: a word that is another one by its first or its last letter is none of those that can stand. */
    private static void term2OtherWords() {
        String text = "from 1 pay worth when not(count=1)or kind<1 and floor>1;from 1 add lesser(year,street)"
            + ";counts greater(panes,back);part families*rooms+openings-lattice;spare;apart";
        act(text, -1);
        for (int at = 0; at < text.length(); at++) {
            boolean letter = Character.isLetter(text.charAt(at));
            if (letter) {
                int begin = at;
                while (begin > 0 && Character.isLetter(text.charAt(begin - 1))) {
                    begin--;
                }
                act(text.substring(0, at) + 'x' + text.substring(at + 1), begin);
            }
        }
    }

    /** Term II: "numbers (digits)": 0 to 9. */
    private static void term2Digits() {
        act("part 0123456789/1", 5);
        act("part 0+1+2+3+4+5+6+7+8+9", -1);
        act("part :", 5);
        act("part 1:", 6);
    }

    /** Term II: "the signs + - * / ( ) < > = ;" and the comma; others are none. */
    private static void term2Signs() {
        act("part 1+2-3*4/5", -1);
        act("part (1) when 1<2;part 1 when 2>1;part 1 when 1=1", -1);
        act("part lesser(1,2)", -1);
        for (char none : ".:!?&|^%$#@~[]{}_\\\"'".toCharArray()) {
            act("part 1" + none + "1", 6);
        }
    }

    /** Term II: "TEXT: nothing, or RULE { ; RULE }". */
    private static void term2Text() {
        act("", -1);
        act(" ", -1);
        act(";", 0);
        act(" ;", 1);
        act("spare;", 6);
        act("spare;\n ", 8);
        act("spare;;spare", 6);
        act("spare apart", 6);
        act("spare;apart;spare", -1);
    }

    /** Term II: "RULE: from N pay SUM | from N add SUM | counts SUM | part SUM | spare | apart". */
    private static void term2Rule() {
        act("from 1 pay 1", -1);
        act("from 1 add 1", -1);
        act("counts 1", -1);
        act("part 1", -1);
        act("spare", -1);
        act("apart", -1);
        act("pay 1", 0);
        act("add 1", 0);
        act("when 1=1", 0);
        act("1", 0);
        act("from", 4);
        act("from pay 1", 5);
        act("from 1", 6);
        act("from 1 part 1", 7);
        act("from 1 pay", 10);
        act("from 1 add", 10);
        act("from 1 1", 7);
        act("from 1 worth", 7);
        act("from 1 (1)", 7);
        act("from (1) pay 1", 5);
        act("from worth pay 1", 5);
        act("counts", 6);
        act("part", 4);
        act("spare 1", 6);
        act("apart 1", 6);
    }

    /** Term II: "each of these with [when CONDS] behind". */
    private static void term2When() {
        for (String rule : new String[] {"from 1 pay 1", "from 1 add 1", "counts 1", "part 1", "spare", "apart"}) {
            int n = rule.length();
            act(rule + " when 1=1", -1);
            act(rule + " when", n + 5);
            act(rule + " when 1", n + 7);
            act(rule + " when 1=", n + 8);
            act(rule + " when 1=1 when 1=1", n + 10);
            act(rule + " where 1=1", n + 1);
            act(rule + " when;spare", n + 5);
        }
    }

    /** Term II: "CONDS: ALL { or ALL }. ALL: COND { and COND }". */
    private static void term2Conds() {
        act("spare when 1=1 or 2=2 and 3=3 or 4=4", -1);
        act("spare when or 1=1", 11);
        act("spare when and 1=1", 11);
        act("spare when 1=1 or", 17);
        act("spare when 1=1 and", 18);
        act("spare when 1=1 or or 1=1", 18);
        act("spare when 1=1 and and 1=1", 19);
        act("spare when 1=1 not(1=1)", 15);
        act("spare when (1=1)", 13);
        act("spare when (1=1 or 2=2)", 13);
    }

    /** Term II: "COND: SUM (< or > or =) SUM | not ( CONDS )". */
    private static void term2Cond() {
        act("spare when 1<1", -1);
        act("spare when 1>1", -1);
        act("spare when 1<>1", 13);
        act("spare when 1==1", 13);
        act("spare when 1>=1", 13);
        act("spare when 1=1=1", 14);
        act("spare when not 1=1", 15);
        act("spare when not()", 15);
        act("spare when not(1)", 16);
        act("spare when not(1=1", 18);
        act("spare when not(1=1 and not(2=2))", -1);
        act("spare when not not(1=1)", 15);
        act("spare when 1=not(1=1)", 13);
        act("spare when 1+not(1=1)", 13);
    }

    /** Term II: "SUM: TERM { (+ or -) TERM }. TERM: FACTOR { (* or /) FACTOR }". */
    private static void term2Sum() {
        act("part 1+2*3-4/5", -1);
        act("part +1", 5);
        act("part -1", 5);
        act("part *1", 5);
        act("part 1+", 7);
        act("part 1*", 7);
        act("part 1++1", 7);
        act("part 1*-1", 7);
        act("part 1+*1", 7);
        act("part 1 2", 7);
        act("part worth families", 11);
    }

    /** Term II: "FACTOR: N, a name, ( SUM ), lesser ( SUM , SUM ), greater ( SUM , SUM )". */
    private static void term2Factor() {
        act("part (1)", -1);
        act("part (((1+1)))*(2)", -1);
        act("part ()", 6);
        act("part (1", 7);
        act("part 1)", 6);
        act("part (1))", 8);
        act("part (1,2)", 7);
        for (String two : new String[] {"lesser", "greater"}) {
            int n = 5 + two.length();
            act("part " + two + "(1,2)", -1);
            act("part " + two + " ( 1+1 , 2*2 ) + 1", -1);
            act("part " + two, n);
            act("part " + two + "+1", n);
            act("part " + two + " 1,2", n + 1);
            act("part " + two + "()", n + 1);
            act("part " + two + "(1)", n + 2);
            act("part " + two + "(1,)", n + 3);
            act("part " + two + "(,1)", n + 1);
            act("part " + two + "(1,2,3)", n + 4);
            act("part " + two + "(1,2", n + 4);
            act("part " + two + "(1=2,2)", n + 2);
        }
        act("part 1,2", 6);
    }

    /** Term II: "N: 0 .. 9999 (of any digits)", behind from and as a FACTOR. */
    private static void term2Numbers() {
        for (String good : new String[] {"0", "00", "9999", "09999", "0000000000000000000000009999"}) {
            act("from " + good + " pay 1", -1);
            act("part " + good, -1);
        }
        String[] bad = {"10000", "010000", "99999", "2147483648", "4294967297", "9223372036854775808",
            "18446744073709551617", "100000000000000000000000000000000000000000"};
        for (String number : bad) {
            act("from " + number + " pay 1", 5);
            act("part  " + number, 6);
            act("part 1+" + number, 7);
            act("spare when 1=" + number, 13);
        }
        act("part " + "0".repeat(294) + "7", -1);
        act("part " + "9".repeat(295), 5);
    }

    /** Term II: the twelve Names, and no others: not those of what is ASKED. */
    private static void term2Names() {
        for (String name : new String[] {"worth", "families", "street", "rooms", "openings", "year", "count",
            "panes", "kind", "floor", "back", "lattice"}) {
            for (String head : new String[] {"part ", "counts ", "from 1 pay ", "from 1 add ", "spare when 1=",
                "apart when 1<"}) {
                act(head + name, -1);
            }
        }
        for (String none : new String[] {"house", "known", "how", "collector", "tax", "from", "pay", "spare",
            "number", "sum", "least", "greatest", "where", "by", "when", "or", "and", "not", "x", "worths", "wort"}) {
            act("part " + none, 5);
        }
    }

    /** Term II: FAULT is "the place (its first byte" of the TOKEN. */
    private static void term2FirstByte() {
        act("   spares", 3);
        act("spare   when   what", 15);
        act("part     123456", 9);
    }

    /** Term II: FAULT: "the end: the length", blanks behind the last TOKEN and all. */
    private static void term2End() {
        act("part", 4);
        act("part   ", 7);
        act("from 1 pay 1+\n", 14);
        act("part (1" + " ".repeat(293), 300);
    }

    /** Term II: FAULT is of "the first TOKEN" of several. */
    private static void term2FirstFault() {
        act("part 10000 #", 5);
        act("part # 10000", 5);
        act("part 1 1 #", 7);
        act("spare;; #", 6);
        act("# spare;;", 0);
        act("part (((((((((1) 10000", 13);
    }

    /** Term II: FAULT: a TOKEN that "begins a 13th RULE". */
    private static void term2Thirteen() {
        String twelve = rules(12);
        act(twelve, -1);
        act(twelve + " ", -1);
        act(twelve + ";spare", 72);
        act(twelve + "; from 1 pay 1", 73);
        act(twelve + ";", 72);
        act(twelve + "; ", 73);
        act(twelve + ";;", 72);
        act(twelve + " when 1=1;spare", 81);
        act(rules(11) + ";part 10000;spare", 71);
    }

    /** Term II: FAULT: "a ( within 8 others": 8 within one another are fine, those that are closed are none. */
    private static void term2Parentheses() {
        String[] open = {"(", "lesser(1,", "greater("};
        String[] close = {")", ")", ",1)"};
        for (int k = 0; k < 3; k++) {
            int last = open[k].indexOf('(');
            act("part " + open[k].repeat(8) + "1" + close[k].repeat(8), -1);
            act("part " + open[k].repeat(9) + "1" + close[k].repeat(9), 5 + 8 * open[k].length() + last);
        }
        act("spare when " + "not(".repeat(8) + "1=1" + ")".repeat(8), -1);
        act("spare when " + "not(".repeat(9) + "1=1" + ")".repeat(9), 11 + 32 + 3);
        act("spare when " + "not(".repeat(7) + "(1)=lesser(1,2)" + ")".repeat(7), -1);
        act("spare when " + "not(".repeat(8) + "(1)=1" + ")".repeat(8), 11 + 32);
        act("spare when " + "not(".repeat(8) + "1=lesser(1,2)" + ")".repeat(8), 11 + 32 + 8);
        act("part " + "((((((((1))))))))*".repeat(8) + "1", -1);
        act("part ((((((((1)+(2))))))))", -1);
        act("part ((((((((1+(2)))))))))", 5 + 10);
        act("part " + "(".repeat(295), 13);
    }

    /** Term II: the parentheses of each RULE, and of what is ASKED, are counted by themselves. */
    private static void term2ParenthesesAgain() {
        String eight = "(".repeat(8) + "1" + ")".repeat(8);
        for (String rule : new String[] {"from 1 pay ", "from 1 add ", "counts ", "part "}) {
            act(rule + eight, -1);
            act(rule + "(" + eight + ")", rule.length() + 8);
            act(rule + eight + " when " + eight + "=" + eight + ";" + rule + eight, -1);
        }
        for (String rule : new String[] {"from 1 pay 1", "from 1 add 1", "counts 1", "part 1", "spare", "apart"}) {
            String seven = eight.substring(1, 16);
            act(rule + " when " + eight + "=" + eight + " or " + eight + "=1 and not(" + seven + "=1)", -1);
            act(rule + " when (" + eight + ")=1", rule.length() + 6 + 8);
            act(rule + " when 1=(" + eight + ")", rule.length() + 8 + 8);
        }
        ask("sum " + eight + " where " + eight + "<" + eight + " and not(1=1)", -1);
        ask("sum (" + eight + ")", 4 + 8);
        ask("number where (" + eight + ")=1", 13 + 8);
        ask("number where not(" + eight + "=1)", 13 + 4 + 7);
    }

    /** Term II: a text of 300 bytes, all of them TOKENS. */
    private static void term2Longer() {
        act("part " + "1+".repeat(147) + "1", -1);
        act("part " + "1+".repeat(147), 299);
        act("part " + "1*".repeat(147) + "1", -1);
        act("part" + "1-".repeat(148), 300);
        act("spare when 1=1" + " or 1=1".repeat(40), -1);
        act("spare when 1=1" + " and 1=1".repeat(35), -1);
    }
}
