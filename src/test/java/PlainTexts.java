import java.util.ArrayList;
import java.util.HashMap;
import java.util.LinkedHashSet;
import java.util.List;
import java.util.Map;
import java.util.regex.Matcher;
import java.util.regex.Pattern;

/**
 * Texts once more: the FAULT is found as the first byte whose coming empties the chart of an Earley
 * recogniser, which by its nature holds just what can still go on; numbers' bounds come on top.
 */
final class PlainTexts {
    private static final Map<String, List<String[]>> RULE_GRAMMAR = ruleGrammar();
    private static final Map<String, List<String[]>> SHOP_GRAMMAR = shopGrammar();
    private static final Map<String, List<String[]>> CUSTOMER_GRAMMAR = customerGrammar();

    private PlainTexts() {
    }

    static int shopFault(String text) {
        int shape = fault(SHOP_GRAMMAR, text);
        int upTo = shape < 0 ? text.length() : shape;
        int last = 0;
        // whatever stands ahead of the shape's fault is well formed: a letter or a comma, a number
        Matcher m = Pattern.compile("([cplt,]) *([0-9]{1,2})").matcher(text.substring(0, upTo));
        while (m.find()) {
            int n = Integer.parseInt(m.group(2));
            String part = m.group(1);
            boolean wrong = part.equals("p") ? n < 1 || n > 2
                : part.equals("l") ? n < 1 || n > 5
                : part.equals("t") ? n > 1
                : n < 1 || n <= last;
            if (wrong) {
                return lastOrThirdDigit(text, m.end());
            }
            last = n;
        }
        return shape;
    }

    static int customerFault(String text, int kinds) {
        int shape = fault(CUSTOMER_GRAMMAR, text);
        int upTo = shape < 0 ? text.length() : shape;
        Matcher m = Pattern.compile("[0-9]{1,2}").matcher(text.substring(0, upTo));
        if (m.find() && Integer.parseInt(m.group()) == 0) {
            return lastOrThirdDigit(text, m.end());
        }
        for (int i = 0; i < upTo; i++) {
            if (text.charAt(i) >= 'a' + kinds && text.charAt(i) <= 'd') {
                return i;
            }
        }
        return shape;
    }

    // the shape ends ahead of a third digit, so what stands there is looked up in the whole text
    private static int lastOrThirdDigit(String text, int end) {
        return end < text.length() && "0123456789".indexOf(text.charAt(end)) >= 0 ? end : end - 1;
    }

    static int ruleFault(String text) {
        return fault(RULE_GRAMMAR, text);
    }

    private static void add(Map<String, List<String[]>> g, String name, String... ways) {
        for (String way : ways) {
            g.computeIfAbsent(name, x -> new ArrayList<>()).add(way.isEmpty() ? new String[0] : way.split("_"));
        }
    }

    // In the ways a part that is a name of the grammar stands for its ways, another is a choice of signs.
    private static void addNumber(Map<String, List<String[]>> g, int most) {
        StringBuilder way = new StringBuilder("Blank");
        for (int i = 0; i < most; i++) {
            way.append("_0123456789");
            add(g, "Number", way.toString());
        }
        add(g, "Blank", "", "Blank_ ");
    }

    private static Map<String, List<String[]>> shopGrammar() {
        Map<String, List<String[]>> g = new HashMap<>();
        addNumber(g, 2);
        add(g, "Start", "Blank_c_Values_P_L_T_Blank");
        add(g, "Values", "Number", "Number_Blank_,_Number", "Number_Blank_,_Number_Blank_,_Number",
            "Number_Blank_,_Number_Blank_,_Number_Blank_,_Number");
        add(g, "P", "", "Blank_;_Blank_p_Number");
        add(g, "L", "", "Blank_;_Blank_l_Number");
        add(g, "T", "", "Blank_;_Blank_t_Number");
        return g;
    }

    private static Map<String, List<String[]>> customerGrammar() {
        Map<String, List<String[]>> g = new HashMap<>();
        addNumber(g, 2);
        add(g, "Start", "Number_Blank_:_Purse_Blank");
        add(g, "Letter", "Blank_abcd");
        add(g, "Purse", "Letter", "Letter_Letter", "Letter_Letter_Letter", "Letter_Letter_Letter_Letter");
        return g;
    }

    private static Map<String, List<String[]>> ruleGrammar() {
        Map<String, List<String[]>> g = new HashMap<>();
        addNumber(g, 4);
        add(g, "Start", "Clauses_Blank");
        add(g, "Clauses", "Clause", "Clauses_Blank_;_Clause");
        add(g, "Clause", "Blank_y_Blank_:_Sum0", "Blank_y_Blank_:_Condition0_Blank_?_Sum0");
        for (int d = 0; d <= 6; d++) {
            add(g, "Condition" + d, "Truth" + d, "Condition" + d + "_Blank_|_Truth" + d);
            add(g, "Truth" + d, "Unit" + d, "Truth" + d + "_Blank_&_Unit" + d);
            add(g, "Unit" + d, "Sum" + d + "_Blank_=<>_Sum" + d);
            add(g, "Sum" + d, "Term" + d, "Sum" + d + "_Blank_+-_Term" + d);
            add(g, "Term" + d, "Atom" + d, "Term" + d + "_Blank_*/_Atom" + d);
            add(g, "Atom" + d, "Number", "Blank_vtniso");
            if (d < 6) {
                add(g, "Unit" + d, "Blank_!_Unit" + (d + 1), "Blank_(_Condition" + (d + 1) + "_Blank_)");
                add(g, "Atom" + d, "Blank_[_Sum" + (d + 1) + "_Blank_]");
            }
        }
        return g;
    }

    private record Item(String name, int way, int dot, int from) {
    }

    private static int fault(Map<String, List<String[]>> g, String text) {
        List<LinkedHashSet<Item>> chart = new ArrayList<>();
        LinkedHashSet<Item> now = new LinkedHashSet<>();
        for (int w = 0; w < g.get("Start").size(); w++) {
            now.add(new Item("Start", w, 0, 0));
        }
        for (int at = 0;; at++) {
            chart.add(now);
            LinkedHashSet<Item> next = spread(g, chart, at, at < text.length() ? text.charAt(at) : 0);
            if (at == text.length()) {
                for (Item i : now) {
                    if (i.name.equals("Start") && i.dot == g.get("Start").get(i.way).length) {
                        return -1;
                    }
                }
                return at;
            }
            if (next.isEmpty()) {
                return at;
            }
            now = next;
        }
    }

    private static LinkedHashSet<Item> spread(Map<String, List<String[]>> g, List<LinkedHashSet<Item>> chart, int at, char sign) {
        LinkedHashSet<Item> set = chart.get(at);
        LinkedHashSet<Item> next = new LinkedHashSet<>();
        List<Item> work = new ArrayList<>(set);
        for (int i = 0; i < work.size(); i++) {
            Item item = work.get(i);
            String[] way = g.get(item.name).get(item.way);
            List<Item> more = new ArrayList<>();
            if (item.dot == way.length) {
                for (Item back : new ArrayList<>(chart.get(item.from))) {
                    String[] theirs = g.get(back.name).get(back.way);
                    if (back.dot < theirs.length && theirs[back.dot].equals(item.name)) {
                        more.add(new Item(back.name, back.way, back.dot + 1, back.from));
                    }
                }
            } else if (g.containsKey(way[item.dot])) {
                for (int w = 0; w < g.get(way[item.dot]).size(); w++) {
                    more.add(new Item(way[item.dot], w, 0, at));
                }
                if (canBeEmpty(g, way[item.dot])) {
                    more.add(new Item(item.name, item.way, item.dot + 1, item.from));
                }
            } else if (sign != 0 && way[item.dot].indexOf(sign) >= 0) {
                next.add(new Item(item.name, item.way, item.dot + 1, item.from));
            }
            for (Item m : more) {
                if (set.add(m)) {
                    work.add(m);
                }
            }
        }
        return next;
    }

    private static boolean canBeEmpty(Map<String, List<String[]>> g, String name) {
        for (String[] way : g.get(name)) {
            if (way.length == 0) {
                return true;
            }
        }
        return false;
    }

    // ---- WORTH of a rule without faults and blanks

    static long worth(String rule, int v, int t, int n, int i, int s, int o) {
        int[] letters = {v, t, n, i, s, o};
        for (String clause : rule.split(";")) {
            String body = clause.substring(2);
            int ask = body.indexOf('?');
            if (ask < 0 || holds(body.substring(0, ask), letters)) {
                return sum(body.substring(ask + 1), letters);
            }
        }
        return 0;
    }

    /** Where the last sign of these stands that is not within brackets; -1 if none does. */
    private static int lastOutside(String text, String signs) {
        int depth = 0;
        for (int i = text.length() - 1; i >= 0; i--) {
            char c = text.charAt(i);
            if (c == ')' || c == ']') {
                depth++;
            } else if (c == '(' || c == '[') {
                depth--;
            } else if (depth == 0 && signs.indexOf(c) >= 0) {
                return i;
            }
        }
        return -1;
    }

    private static boolean holds(String text, int[] letters) {
        int at = lastOutside(text, "|");
        if (at >= 0) {
            return holds(text.substring(0, at), letters) || holds(text.substring(at + 1), letters);
        }
        at = lastOutside(text, "&");
        if (at >= 0) {
            return holds(text.substring(0, at), letters) && holds(text.substring(at + 1), letters);
        }
        if (text.charAt(0) == '!') {
            return !holds(text.substring(1), letters);
        }
        if (text.charAt(0) == '(') {
            return holds(text.substring(1, text.length() - 1), letters);
        }
        at = lastOutside(text, "=<>");
        long a = sum(text.substring(0, at), letters);
        long b = sum(text.substring(at + 1), letters);
        return text.charAt(at) == '=' ? a == b : text.charAt(at) == '<' ? a < b : a > b;
    }

    private static long sum(String text, int[] letters) {
        int at = lastOutside(text, "+-");
        if (at < 0) {
            at = lastOutside(text, "*/");
        }
        if (at >= 0) {
            long a = sum(text.substring(0, at), letters);
            long b = sum(text.substring(at + 1), letters);
            long c;
            switch (text.charAt(at)) {
                case '+': c = a + b; break;
                case '-': c = a - b; break;
                case '*': c = a * b; break;
                default: c = b == 0 ? 0 : a / b;
            }
            return c > 1_000_000 ? 1_000_000 : c < -1_000_000 ? -1_000_000 : c;
        }
        if (text.charAt(0) == '[') {
            return sum(text.substring(1, text.length() - 1), letters);
        }
        int letter = "vtniso".indexOf(text.charAt(0));
        return letter >= 0 ? letters[letter] : Long.parseLong(text);
    }
}
