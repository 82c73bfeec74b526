import java.util.ArrayList;
import java.util.List;
import java.util.Map;
import java.util.Set;

/** A text of Term II or VIII as the model reads it: RULES that tell by the names that are told, or a FAULT. */
final class ModelText {
    interface Sum {
        long of(Map<String, Long> told);
    }

    interface Conds {
        boolean hold(Map<String, Long> told);
    }

    static final class Rule {
        String kind;
        int n = 0;
        Sum sum = told -> 0;
        Conds conds = told -> true;
    }

    private static final class Fault extends RuntimeException {
        private static final long serialVersionUID = 1;
    }

    private static final Set<String> IN_ACTS = Set.of("worth", "families", "street", "rooms", "openings", "year",
        "count", "panes", "kind", "floor", "back", "lattice");
    private static final Set<String> IN_ASKED = Set.of("house", "street", "year", "count", "known", "how", "collector",
        "worth", "tax");

    final List<Rule> rules = new ArrayList<>();
    String by = null;
    int fault = -1;
    private final String text;
    private final Set<String> names;
    private int at = 0;
    private int open = 0;

    ModelText(String text, boolean asked) {
        this.text = text;
        names = asked ? IN_ASKED : IN_ACTS;
        try {
            if (asked) {
                asked();
            } else if (!peek().isEmpty()) {
                rule();
                while (peek().equals(";")) {
                    take();
                    rule();
                }
            }
            need("");
        } catch (Fault f) {
            fault = at;
        }
    }

    /** The TOKEN at the next place that is no blank; an empty one at the end. */
    private String peek() {
        while (at < text.length() && (text.charAt(at) == 32 || text.charAt(at) == 10)) {
            at++;
        }
        if (at == text.length()) {
            return "";
        }
        String all = text.substring(at);
        for (String form : new String[] {"[a-z]+", "[0-9]+"}) {
            String rest = all.replaceFirst("(?s)^" + form, "");
            if (rest.length() < all.length()) {
                return all.substring(0, all.length() - rest.length());
            }
        }
        return all.substring(0, 1);
    }

    private String take() {
        String token = peek();
        at += token.length();
        return token;
    }

    private void need(String token) {
        if (!peek().equals(token)) {
            throw new Fault();
        }
        take();
    }

    private void asked() {
        Rule what = new Rule();
        what.kind = peek();
        if (!Set.of("number", "sum", "least", "greatest").contains(what.kind)) {
            throw new Fault();
        }
        take();
        if (!what.kind.equals("number")) {
            what.sum = sum();
        }
        conds(what, "where");
        if (peek().equals("by")) {
            take();
            if (!names.contains(peek())) {
                throw new Fault();
            }
            by = take();
        }
        rules.add(what);
    }

    private void conds(Rule rule, String word) {
        if (peek().equals(word)) {
            take();
            rule.conds = conds();
        }
    }

    private void rule() {
        Rule rule = new Rule();
        rule.kind = peek();
        if (rules.size() == 12 || !Set.of("from", "counts", "part", "spare", "apart").contains(rule.kind)) {
            throw new Fault();
        }
        take();
        if (rule.kind.equals("from")) {
            rule.n = number();
            rule.kind = peek();
            if (!rule.kind.equals("pay") && !rule.kind.equals("add")) {
                throw new Fault();
            }
            take();
        }
        if (!rule.kind.equals("spare") && !rule.kind.equals("apart")) {
            rule.sum = sum();
        }
        conds(rule, "when");
        rules.add(rule);
    }

    private int number() {
        String digits = peek().replaceFirst("^0+(?=.)", "");
        if (!digits.matches("[0-9]{1,4}")) {
            throw new Fault();
        }
        take();
        return Integer.parseInt(digits);
    }

    private void open() {
        if (open == 8) {
            peek();
            throw new Fault();
        }
        need("(");
        open++;
    }

    private void close() {
        need(")");
        open--;
    }

    private Conds conds() {
        Conds all = all();
        while (peek().equals("or")) {
            take();
            Conds before = all;
            Conds next = all();
            all = told -> before.hold(told) || next.hold(told);
        }
        return all;
    }

    private Conds all() {
        Conds all = cond();
        while (peek().equals("and")) {
            take();
            Conds before = all;
            Conds next = cond();
            all = told -> before.hold(told) && next.hold(told);
        }
        return all;
    }

    private Conds cond() {
        if (peek().equals("not")) {
            take();
            open();
            Conds inner = conds();
            close();
            return told -> !inner.hold(told);
        }
        Sum a = sum();
        String sign = peek();
        if (!sign.equals("<") && !sign.equals(">") && !sign.equals("=")) {
            throw new Fault();
        }
        take();
        Sum b = sum();
        return told -> sign.equals("<") ? a.of(told) < b.of(told) : sign.equals(">") ? a.of(told) > b.of(told)
            : a.of(told) == b.of(told);
    }

    private Sum sum() {
        Sum sum = term();
        while (peek().equals("+") || peek().equals("-")) {
            boolean plus = take().equals("+");
            Sum before = sum;
            Sum next = term();
            sum = told -> plus ? before.of(told) + next.of(told) : before.of(told) - next.of(told);
        }
        return sum;
    }

    private Sum term() {
        Sum term = factor();
        while (peek().equals("*") || peek().equals("/")) {
            boolean times = take().equals("*");
            Sum before = term;
            Sum next = factor();
            term = told -> times ? before.of(told) * next.of(told)
                : next.of(told) == 0 ? 0 : before.of(told) / next.of(told);
        }
        return term;
    }

    private Sum factor() {
        String token = peek();
        if (names.contains(token)) {
            take();
            return told -> told.getOrDefault(token, 0L);
        }
        if (token.equals("(")) {
            open();
            Sum inner = sum();
            close();
            return inner;
        }
        if (token.equals("lesser") || token.equals("greater")) {
            take();
            open();
            Sum a = sum();
            need(",");
            Sum b = sum();
            close();
            return told -> token.equals("lesser") ? Math.min(a.of(told), b.of(told)) : Math.max(a.of(told), b.of(told));
        }
        long n = number();
        return told -> n;
    }
}
