import java.util.ArrayList;
import java.util.HashSet;
import java.util.LinkedHashMap;
import java.util.List;
import java.util.Map;
import java.util.Set;

/**
 * Promise 3 on programs spoilt by chance: the place of the fault is that which the grammar itself
 * gives, followed word by word with all its alternatives at once (Earley's way).
 */
public final class RandomFaultsTest {
    private static final Checks CHECKS = new Checks("random faults");
    private static final String[] OTHERS = ("fun var if else while assert return any ( ) { } [ ] , ; = + - * / % "
        + "< <= > >= == != && || ! q 7 x 007 1a & | $ . 2147483648").split(" ");
    private static final Map<String, String[][]> GRAMMAR = new LinkedHashMap<>();

    private record Item(String left, int choice, int dot, int origin) {
        String next() {
            String[] right = GRAMMAR.get(left)[choice];
            return dot < right.length ? right[dot] : "";
        }

        Item moved() {
            return new Item(left, choice, dot + 1, origin);
        }
    }

    public static void main(String[] args) {
        grammar();
        for (int seed = 0; seed < 3000; seed++) {
            spoilt(seed);
        }
        CHECKS.end();
    }

    private static void grammar() {
        rule("TEXT", "FUNCTION | TEXT FUNCTION");
        rule("FUNCTION", "fun NAME ( ) BLOCK | fun NAME ( NAMES ) BLOCK");
        rule("NAMES", "NAME | NAMES , NAME");
        rule("BLOCK", "{ } | { STATEMENTS }");
        rule("STATEMENTS", "STATEMENT | STATEMENTS STATEMENT");
        rule("STATEMENT", "var NAME ; | var NAME = SUM ; | var NAME [ NUMBER ] ; | NAME = SUM ; "
            + "| NAME [ SUM ] = SUM ; | NAME = NAME ( ) ; | NAME = NAME ( SUMS ) ; | NAME ( ) ; "
            + "| NAME ( SUMS ) ; | if ( COND ) BLOCK | if ( COND ) BLOCK else BLOCK "
            + "| while ( COND ) BLOCK | assert ( COND ) ; | return SUM ;");
        rule("SUMS", "SUM | SUMS , SUM");
        rule("SUM", "TERM | SUM + TERM | SUM - TERM");
        rule("TERM", "FACTOR | TERM * FACTOR | TERM / FACTOR | TERM % FACTOR");
        rule("FACTOR", "NUMBER | NAME | NAME [ SUM ] | - FACTOR | ( SUM ) | any | any ( LIMIT , LIMIT )");
        rule("LIMIT", "NUMBER | - NUMBER");
        rule("COND", "BOTH | COND || BOTH");
        rule("BOTH", "TEST | BOTH && TEST");
        rule("TEST", "! TEST | [ COND ] | SUM RELATION SUM");
        rule("RELATION", "< | <= | > | >= | == | !=");
    }

    private static void rule(String left, String choices) {
        String[] split = choices.split(" \\| ");
        String[][] rights = new String[split.length][];
        for (int i = 0; i < split.length; i++) {
            rights[i] = split[i].split(" ");
        }
        GRAMMAR.put(left, rights);
    }

    private static void spoilt(int seed) {
        ProgramMaker maker = new ProgramMaker(seed);
        maker.text(1 + maker.random.nextInt(3), maker.random.nextInt(7));
        List<String> tokens = maker.tokens;
        int at = maker.random.nextInt(tokens.size());
        String other = OTHERS[maker.random.nextInt(OTHERS.length)];
        switch (maker.random.nextInt(4)) {
            case 0: tokens.set(at, other); break;
            case 1: tokens.add(at, other); break;
            case 2: tokens.remove(at); break;
            default: tokens.subList(at, tokens.size()).clear();
        }
        // One blank between all tokens, so that no two of them join into another.
        String text = String.join(" ", tokens);
        if (text.length() <= 8000) {
            int got = Checks.readText(new ProgramReader(), seed % 2, text);
            CHECKS.equal("fault of " + text, got, fault(tokens, text.length()));
        }
    }

    private static int fault(List<String> tokens, int end) {
        List<Set<Item>> sets = new ArrayList<>();
        Set<Item> kernel = new HashSet<>();
        predict("TEXT", 0, kernel);
        int place = 0;
        for (String token : tokens) {
            sets.add(close(kernel, sets));
            kernel = new HashSet<>();
            for (Item item : sets.get(sets.size() - 1)) {
                if (item.next().equals(kind(token))) {
                    kernel.add(item.moved());
                }
            }
            if (kernel.isEmpty()) {
                return place;
            }
            place += token.length() + 1;
        }
        for (Item item : close(kernel, sets)) {
            if (item.left().equals("TEXT") && item.origin() == 0 && item.next().isEmpty()) {
                return -1;
            }
        }
        return end;
    }

    private static void predict(String left, int origin, Set<Item> items) {
        for (int choice = 0; choice < GRAMMAR.get(left).length; choice++) {
            items.add(new Item(left, choice, 0, origin));
        }
    }

    // No rule has an empty side, so what is completed here began in an earlier set.
    private static Set<Item> close(Set<Item> kernel, List<Set<Item>> before) {
        Set<Item> done = new HashSet<>();
        List<Item> work = new ArrayList<>(kernel);
        while (!work.isEmpty()) {
            Item item = work.remove(work.size() - 1);
            if (!done.add(item)) {
                continue;
            }
            Set<Item> more = new HashSet<>();
            if (GRAMMAR.containsKey(item.next())) {
                predict(item.next(), before.size(), more);
            } else if (item.next().isEmpty()) {
                for (Item waiting : before.get(item.origin())) {
                    if (waiting.next().equals(item.left())) {
                        more.add(waiting.moved());
                    }
                }
            }
            work.addAll(more);
        }
        return done;
    }

    private static String kind(String token) {
        if (token.matches("fun|var|if|else|while|assert|return|any")) {
            return token;
        }
        if (token.matches("[A-Za-z_][A-Za-z0-9_]{0,29}")) {
            return "NAME";
        }
        if (token.matches("0|[1-9][0-9]*")) {
            return Long.parseLong(token) <= 2147483647L ? "NUMBER" : "no token";
        }
        return token;
    }
}
