import java.util.ArrayList;
import java.util.HashMap;
import java.util.LinkedHashSet;
import java.util.List;
import java.util.Map;
import java.util.Random;
import java.util.Set;

/** FAULTS of LAWS against the grammar itself: Earley's way keeps every reading that can still go on. */
public final class LawFaultTest {
    private record Item(String head, List<String> body, int dot, int from) {
        String next() {
            return dot < body.size() ? body.get(dot) : null;
        }

        Item on() {
            return new Item(head, body, dot + 1, from);
        }
    }

    private final Map<String, List<List<String>>> rules = new HashMap<>();

    private LawFaultTest() {
        rule("Law", "Clause");
        rule("Law", "Clause ; Law");
        rule("Clause", "y : Sum0");
        rule("Clause", "y : Cond0 ? Sum0");
        for (int d = 0; d <= 6; d++) {
            rule("Cond" + d, "Truth" + d);
            rule("Cond" + d, "Truth" + d + " | Cond" + d);
            rule("Truth" + d, "Unit" + d);
            rule("Truth" + d, "Unit" + d + " & Truth" + d);
            rule("Sum" + d, "Term" + d);
            rule("Term" + d, "Atom" + d);
            for (String sign : "= < >".split(" ")) {
                rule("Unit" + d, "Sum" + d + " " + sign + " Sum" + d);
            }
            for (String sign : "+ -".split(" ")) {
                rule("Sum" + d, "Term" + d + " " + sign + " Sum" + d);
            }
            for (String sign : "* /".split(" ")) {
                rule("Term" + d, "Atom" + d + " " + sign + " Term" + d);
            }
            for (String letter : "t r c b d o".split(" ")) {
                rule("Atom" + d, letter);
            }
            for (String number : "FIRST,FIRST LATER,FIRST LATER LATER,FIRST LATER LATER LATER".split(",")) {
                rule("Atom" + d, number);
            }
            if (d < 6) {
                rule("Unit" + d, "! Unit" + (d + 1));
                rule("Unit" + d, "( Cond" + (d + 1) + " )");
                rule("Atom" + d, "[ Sum" + (d + 1) + " ]");
            }
        }
    }

    private void rule(String head, String body) {
        rules.computeIfAbsent(head, h -> new ArrayList<>()).add(List.of(body.split(" ")));
    }

    private static boolean matches(String wanted, String text, int at) {
        char sign = text.charAt(at);
        boolean digit = sign >= '0' && sign <= '9';
        if (wanted.equals("FIRST")) {
            return digit;
        }
        if (wanted.equals("LATER")) {
            return digit && text.charAt(at - 1) >= '0' && text.charAt(at - 1) <= '9';
        }
        return wanted.length() == 1 && wanted.charAt(0) == sign;
    }

    private void close(List<Set<Item>> charts, int at) {
        List<Item> open = new ArrayList<>(charts.get(at));
        for (int i = 0; i < open.size(); i++) {
            Item item = open.get(i);
            List<Item> more = new ArrayList<>();
            if (item.next() == null) {
                for (Item waiting : charts.get(item.from())) {
                    if (item.head().equals(waiting.next())) {
                        more.add(waiting.on());
                    }
                }
            } else if (rules.containsKey(item.next())) {
                for (List<String> body : rules.get(item.next())) {
                    more.add(new Item(item.next(), body, 0, at));
                }
            }
            for (Item one : more) {
                if (charts.get(at).add(one)) {
                    open.add(one);
                }
            }
        }
    }

    private int fault(String text) {
        List<Set<Item>> charts = new ArrayList<>();
        Set<Item> chart = new LinkedHashSet<>();
        chart.add(new Item("All", List.of("Law"), 0, 0));
        charts.add(chart);
        close(charts, 0);
        for (int at = 0; at < text.length(); at++) {
            if (text.charAt(at) == ' ') {
                continue;
            }
            Set<Item> next = new LinkedHashSet<>();
            for (Item item : charts.get(charts.size() - 1)) {
                if (item.next() != null && matches(item.next(), text, at)) {
                    next.add(item.on());
                }
            }
            if (next.isEmpty()) {
                return at;
            }
            charts.add(next);
            close(charts, charts.size() - 1);
        }
        boolean whole = charts.get(charts.size() - 1).contains(new Item("All", List.of("Law"), 1, 0));
        return whole ? LawnAhead.NONE : text.length();
    }

    private static String deep(Random draws) {
        StringBuilder out = new StringBuilder("y:");
        int depth = 4 + draws.nextInt(4);
        StringBuilder behind = new StringBuilder();
        boolean sums = false;
        for (int i = 0; i < depth; i++) {
            int kind = sums ? 2 : draws.nextInt(3);
            if (kind == 2 && !sums) {
                sums = true;
                behind.insert(0, "=1");
            }
            out.append("!([".charAt(kind));
            behind.insert(0, kind == 0 ? "" : kind == 1 ? ")" : "]");
        }
        return out.append("t").append(sums ? "" : "=1").append(behind).append("?1").toString();
    }

    public static void main(String[] args) {
        Check check = new Check();
        LawFaultTest grammar = new LawFaultTest();
        Random draws = new Random(20261118);
        TextMaker texts = new TextMaker(draws);
        LawnAhead x = new LawnAhead();
        for (int i = 0; i < 6000; i++) {
            String text = i % 10 == 0 ? deep(draws) : texts.text(1);
            if (text.length() <= 100) {
                Check.tape(x, text);
                check.due("fault(1) of " + text, x.fault(1), grammar.fault(text));
            }
        }
        check.finish();
    }
}
