import java.util.ArrayList;
import java.util.Collection;
import java.util.HashMap;
import java.util.LinkedHashMap;
import java.util.List;
import java.util.Map;
import java.util.Random;
import java.util.Set;

/**
 * FAULT 1, found a second way: the grammar of the document as bare rules, and a chart of all that can still come of them
 * (Earley's), where the class goes down the rules one by one. The first token that leaves the chart empty is the FAULT.
 * Arguments: how many texts (4000), the first text's number (1).
 */
public final class GrammarTest {
    private static final Checks CHECKS = new Checks("GrammarTest");
    private static final Set<String> OWN_WORDS = Set.of("mood", "person", "is", "loaf", "leaven", "by", "eats", "at", "deed", "when", "turn",
        "night", "bake", "evening", "whim", "clock", "day", "own", "now", "bread", "which", "feel", "nature", "or", "and", "not", "all",
        "min", "max");
    // How many numbers each of the PEOPLE has hangs on these MOODS, so they are never spoilt.
    private static final String MOODS = "mood ma;mood mb;";
    private static final String[] PIECES = {"person", "is", "by", "at", "or", "and", "not", "all", "min", "max", "feel", "nature", "own",
        "now", "bread", "which", "clock", "day", "hour", "does", "first", "total", "evening", "abcdefg", "abcdefgh", "x", "pp", "(", ")", "[",
        "]", ",", ";", "<", ">", "=", "+", "-", "*", "/", "5", "12345", "123456", "0", "A", "#", "\t", "_", ""};

    private final Map<String, List<List<String>>> rules = new HashMap<>();
    private final Random random;

    private record Token(int at, String text, char sort, boolean joined) {
    }

    /** A rule of which the first parts are there, from some token on. */
    private record Item(String of, List<String> parts, int there, int from) {
        boolean isWhole() {
            return there == parts.size();
        }

        String next() {
            return isWhole() ? "" : parts.get(there);
        }

        Item onward() {
            return new Item(of, parts, there + 1, from);
        }
    }

    private GrammarTest(long seed) {
        random = new Random(seed * 31 + 7);
        rule("TOWN", "mood NAME ; mood NAME ;", "TOWN STATEMENT ;");
        rule("STATEMENT", "person NAME is N N", "loaf NAME leaven N by NAMES", "eats NAME NAME at N", "deed NAME when TEST.deed",
            "turn SUM.turn", "night SUM.turn", "bake N", "evening N", "whim N");
        rule("NAMES", "NAME", "NAMES NAME");
        rule("QUESTION", "first TEST.ask", "last TEST.ask", "often TEST.ask", "total SUM.ask", "most SUM.ask", "least SUM.ask");
        testsAndSums(".turn");
        testsAndSums(".deed");
        testsAndSums(".ask");
        rule("PART.turn", "own", "now", "bread", "which");
        rule("PART.deed", "feel PART.deed", "nature PART.deed");
        rule("PART.ask", "hour", "feel PART.ask", "nature PART.ask", "does PART.ask");
    }

    private void testsAndSums(String in) {
        ruleIn(in, "TEST", "BOTH", "TEST or BOTH");
        ruleIn(in, "BOTH", "FACT", "BOTH and FACT");
        ruleIn(in, "FACT", "all", "not FACT", "[ TEST ]", "SUM < SUM", "SUM > SUM", "SUM = SUM");
        ruleIn(in, "SUM", "PRODUCT", "SUM + PRODUCT", "SUM - PRODUCT");
        ruleIn(in, "PRODUCT", "PART", "PRODUCT * PART", "PRODUCT / PART");
        ruleIn(in, "PART", "N", "clock", "day", "( SUM )", "min ( SUM , SUM )", "max ( SUM , SUM )");
    }

    private void ruleIn(String in, String of, String... all) {
        for (String one : all) {
            rule(of + in, one.replaceAll("(TEST|BOTH|FACT|SUM|PRODUCT|PART)", "$1" + in));
        }
    }

    private void rule(String of, String... all) {
        for (String one : all) {
            rules.computeIfAbsent(of, key -> new ArrayList<>()).add(List.of(one.split(" ")));
        }
    }

    public static void main(String[] args) {
        long texts = args.length > 0 ? Long.parseLong(args[0]) : 4000;
        long from = args.length > 1 ? Long.parseLong(args[1]) : 1;
        for (long seed = from; seed < from + texts; seed++) {
            new GrammarTest(seed).run();
        }
        CHECKS.finish();
    }

    private void run() {
        boolean asks = random.nextBoolean();
        String ahead = asks ? "" : MOODS;
        String text = asks ? made("QUESTION", 12) : statements();
        for (int spoils = random.nextInt(3); spoils > 0; spoils--) {
            text = spoilt(text);
        }
        text = ahead + text;
        if (text.length() > 1600) {
            return;
        }
        MoodBread x = Checks.townOf("mood m;person p is 5;");
        Checks.tape(x, text);
        if (asks) {
            x.ask(0);
        } else {
            x.town();
        }
        int place = firstFault(text, asks ? "QUESTION" : "TOWN");
        if (x.fault(0) <= 1) {
            CHECKS.due("fault(0) of " + text, x.fault(0), place < 0 ? 0 : 1);
            CHECKS.due("fault(1) of " + text, x.fault(1), place);
        } else {
            CHECKS.due("FAULT " + x.fault(0) + " is no later than a FAULT 1 in " + text, place < 0 || place >= x.fault(1), true);
        }
    }

    // ---- where a FAULT 1 is

    /** Where the text first goes against the grammar, -1 where it never does. */
    private int firstFault(String text, String start) {
        List<Token> tokens = tokens(text);
        List<Map<Item, Item>> chart = new ArrayList<>();
        chart.add(new LinkedHashMap<>());
        for (List<String> parts : rules.get(start)) {
            put(chart.get(0), new Item(start, parts, 0, 0));
        }
        for (int at = 0; at < tokens.size(); at++) {
            widen(chart, at);
            Map<Item, Item> next = new LinkedHashMap<>();
            for (Item item : chart.get(at).values()) {
                if (fits(tokens.get(at), item.next())) {
                    put(next, item.onward());
                }
            }
            if (next.isEmpty()) {
                return placeIn(tokens.get(at), chart.get(at).values());
            }
            chart.add(next);
        }
        widen(chart, tokens.size());
        boolean whole = chart.get(tokens.size()).values().stream().anyMatch(item -> item.isWhole() && item.from() == 0 && item.of().equals(start));
        return whole ? -1 : text.length();
    }

    private static boolean put(Map<Item, Item> items, Item item) {
        return items.putIfAbsent(item, item) == null;
    }

    /** Adds all that may begin at this token, and all that is whole ahead of it. (No rule is empty.) */
    private void widen(List<Map<Item, Item>> chart, int at) {
        List<Item> open = new ArrayList<>(chart.get(at).values());
        for (int i = 0; i < open.size(); i++) {
            Item item = open.get(i);
            List<Item> more = new ArrayList<>();
            if (item.isWhole()) {
                for (Item waiting : chart.get(item.from()).values()) {
                    if (waiting.next().equals(item.of())) {
                        more.add(waiting.onward());
                    }
                }
            } else {
                for (List<String> parts : rules.getOrDefault(item.next(), List.of())) {
                    more.add(new Item(item.next(), parts, 0, at));
                }
            }
            for (Item one : more) {
                if (put(chart.get(at), one)) {
                    open.add(one);
                }
            }
        }
    }

    private static boolean fits(Token token, String part) {
        if (token.joined()) {
            return false;
        }
        switch (part) {
            case "NAME": return canBeLongName(token) && token.text().length() <= 6;
            case "N": return token.sort() == '0' && token.text().length() <= 4;
            default: return part.equals(token.text());
        }
    }

    private static boolean canBeLongName(Token token) {
        return token.sort() == 'a' && !OWN_WORDS.contains(token.text());
    }

    /** The FAULT's place at a token that goes on nowhere: a 7th letter, a 5th digit are at themselves, where such are asked. */
    private static int placeIn(Token token, Collection<Item> items) {
        for (Item item : items) {
            if (!token.joined() && item.next().equals("NAME") && canBeLongName(token)) {
                return token.at() + 6;
            }
            if (!token.joined() && item.next().equals("N") && token.sort() == '0') {
                return token.at() + 4;
            }
        }
        return token.at();
    }

    private static List<Token> tokens(String text) {
        List<Token> all = new ArrayList<>();
        for (int at = 0; at < text.length();) {
            char sort = sort(text.charAt(at));
            int end = at + 1;
            while (sort != '?' && end < text.length() && sort(text.charAt(end)) == sort) {
                end++;
            }
            if (sort != ' ') {
                boolean joined = sort != '?' && at > 0 && "a0".indexOf(sort(text.charAt(at - 1))) >= 0;
                all.add(new Token(at, text.substring(at, end), sort, joined));
            }
            at = end;
        }
        return all;
    }

    private static char sort(char c) {
        return c == ' ' || c == '\n' ? ' ' : c >= 'a' && c <= 'z' ? 'a' : c >= '0' && c <= '9' ? '0' : '?';
    }

    // ---- texts

    private String pick(String... all) {
        return all[random.nextInt(all.length)];
    }

    /** STATEMENTS that fit one another, so that FAULTS 2 to 5 come seldom. */
    private String statements() {
        StringBuilder text = new StringBuilder("person pp is 1 22;loaf ll leaven " + random.nextInt(101) + " by pp;");
        String[] more = {"eats pp ll at " + random.nextInt(24), "deed dd when " + made("TEST.deed", 9), "turn " + made("SUM.turn", 9),
            "night " + made("SUM.turn", 9), "bake " + random.nextInt(24), "whim 5"};
        for (String one : more) {
            if (random.nextInt(5) > 0) {
                text.append(one).append(pick(";", " ;", ";\n"));
            }
        }
        return text.toString();
    }

    /** Something that the rules make; blanks are where they are needed, and now and then where they are not, or the other way about. */
    private String made(String part, int depth) {
        if (part.equals("N")) {
            return "" + random.nextInt(20);
        }
        if (!rules.containsKey(part)) {
            return part;
        }
        List<List<String>> all = rules.get(part);
        StringBuilder text = new StringBuilder();
        for (String one : all.get(depth > 0 ? random.nextInt(all.size()) : 0)) {
            String more = made(one, depth - 1);
            boolean sideBySide = text.length() > 0 && sort(text.charAt(text.length() - 1)) != '?' && sort(more.charAt(0)) != '?';
            if (random.nextInt(12) == 0 ? !sideBySide : sideBySide) {
                text.append(pick(" ", "\n", "  "));
            }
            text.append(more);
        }
        return text.toString();
    }

    private String spoilt(String text) {
        List<Token> tokens = tokens(text);
        if (tokens.isEmpty()) {
            return pick(PIECES);
        }
        Token token = tokens.get(random.nextInt(tokens.size()));
        int behind = token.at() + token.text().length();
        int any = random.nextInt(text.length());
        switch (random.nextInt(5)) {
            case 0: return text.substring(0, token.at()) + pick(PIECES) + text.substring(behind);
            case 1: return text.substring(0, token.at()) + pick(PIECES) + text.substring(token.at());
            case 2: return text.substring(0, token.at()) + " " + pick(PIECES) + " " + text.substring(token.at());
            case 3: return text.substring(0, any);
            default: return text.substring(0, any) + text.substring(any + 1);
        }
    }
}
