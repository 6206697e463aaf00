import java.util.ArrayList;
import java.util.HashSet;
import java.util.LinkedHashMap;
import java.util.List;
import java.util.Map;
import java.util.Set;

/** The document's grammar, followed token by token with all its alternatives at once (Earley's way). */
final class Grammar {
    private static final Map<String, String[][]> GRAMMAR = grammar();

    private record Item(String left, int choice, int dot, int origin) {
        String next() {
            String[] right = GRAMMAR.get(left)[choice];
            return dot < right.length ? right[dot] : "";
        }

        Item moved() {
            return new Item(left, choice, dot + 1, origin);
        }
    }

    private Grammar() {
    }

    private static Map<String, String[][]> grammar() {
        Map<String, String[][]> rules = new LinkedHashMap<>();
        rule(rules, "TEXT", "FUNCTION | TEXT FUNCTION");
        rule(rules, "FUNCTION", "fun NAME ( ) BLOCK | fun NAME ( NAMES ) BLOCK");
        rule(rules, "NAMES", "NAME | NAMES , NAME");
        rule(rules, "BLOCK", "{ } | { STATEMENTS }");
        rule(rules, "STATEMENTS", "STATEMENT | STATEMENTS STATEMENT");
        rule(rules, "STATEMENT", "var NAME ; | var NAME = SUM ; | var NAME [ NUMBER ] ; | NAME = SUM ; "
            + "| NAME [ SUM ] = SUM ; | NAME = NAME ( ) ; | NAME = NAME ( SUMS ) ; | NAME ( ) ; "
            + "| NAME ( SUMS ) ; | if ( COND ) BLOCK | if ( COND ) BLOCK else BLOCK "
            + "| while ( COND ) BLOCK | assert ( COND ) ; | return SUM ;");
        rule(rules, "SUMS", "SUM | SUMS , SUM");
        rule(rules, "SUM", "TERM | SUM + TERM | SUM - TERM");
        rule(rules, "TERM", "FACTOR | TERM * FACTOR | TERM / FACTOR | TERM % FACTOR");
        rule(rules, "FACTOR", "NUMBER | NAME | NAME [ SUM ] | - FACTOR | ( SUM ) | any | any ( LIMIT , LIMIT )");
        rule(rules, "LIMIT", "NUMBER | - NUMBER");
        rule(rules, "COND", "BOTH | COND || BOTH");
        rule(rules, "BOTH", "TEST | BOTH && TEST");
        rule(rules, "TEST", "! TEST | [ COND ] | SUM RELATION SUM");
        rule(rules, "RELATION", "< | <= | > | >= | == | !=");
        return rules;
    }

    private static void rule(Map<String, String[][]> rules, String left, String choices) {
        String[] split = choices.split(" \\| ");
        String[][] rights = new String[split.length][];
        for (int i = 0; i < split.length; i++) {
            rights[i] = split[i].split(" ");
        }
        rules.put(left, rights);
    }

    /** The place of the fault of tokens with one blank between them; depth is not looked at. */
    static int fault(List<String> tokens, int end) {
        List<Set<Item>> sets = new ArrayList<>();
        Set<Item> kernel = new HashSet<>();
        predict("TEXT", 0, kernel);
        int place = 0;
        for (String token : tokens) {
            sets.add(close(kernel, sets));
            kernel = new HashSet<>();
            for (Item item : sets.get(sets.size() - 1)) {
                if (item.next().equals(kind(token))) {
                    kernel.add(item.moved());
                }
            }
            if (kernel.isEmpty()) {
                return place;
            }
            place += token.length() + 1;
        }
        for (Item item : close(kernel, sets)) {
            if (item.left().equals("TEXT") && item.origin() == 0 && item.next().isEmpty()) {
                return -1;
            }
        }
        return end;
    }

    private static void predict(String left, int origin, Set<Item> items) {
        for (int choice = 0; choice < GRAMMAR.get(left).length; choice++) {
            items.add(new Item(left, choice, 0, origin));
        }
    }

    // No rule has an empty side, so what is completed here began in an earlier set.
    private static Set<Item> close(Set<Item> kernel, List<Set<Item>> before) {
        Set<Item> done = new HashSet<>();
        List<Item> work = new ArrayList<>(kernel);
        while (!work.isEmpty()) {
            Item item = work.remove(work.size() - 1);
            if (!done.add(item)) {
                continue;
            }
            Set<Item> more = new HashSet<>();
            if (GRAMMAR.containsKey(item.next())) {
                predict(item.next(), before.size(), more);
            } else if (item.next().isEmpty()) {
                for (Item waiting : before.get(item.origin())) {
                    if (waiting.next().equals(item.left())) {
                        more.add(waiting.moved());
                    }
                }
            }
            work.addAll(more);
        }
        return done;
    }

    private static String kind(String token) {
        if (token.matches("fun|var|if|else|while|assert|return|any")) {
            return token;
        }
        if (token.matches("[A-Za-z_][A-Za-z0-9_]{0,29}")) {
            return "NAME";
        }
        if (token.matches("0|[1-9][0-9]*")) {
            return Long.parseLong(token) <= 2147483647L ? "NUMBER" : "no token";
        }
        return token;
    }
}
