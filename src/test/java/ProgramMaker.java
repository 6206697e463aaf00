import java.util.ArrayList;
import java.util.Arrays;
import java.util.List;
import java.util.Random;

/** Makes programs by chance, as tokens with brackets too many, together with the due trees. */
final class ProgramMaker {
    private static final String[] NAMES = {"a", "b", "x", "f", "fu", "any1", "_", "_9", "vary",
        "Zzzzzzzzzzzzzzzzzzzzzzzzzzzzzz"};
    private static final String[] RELATIONS = {"<", "<=", ">", ">=", "==", "!="};
    private static final String[] BLANKS = {" ", "\t", "\r", "\n", "//\n", "// fun \r \200\"/\n", "///\n"};

    final Random random;
    final List<String> tokens = new ArrayList<>();

    ProgramMaker(long seed) {
        random = new Random(seed);
    }

    /** A due node; its place is the number of its first token. */
    static final class Node {
        final int kind;
        final int token;
        final String spelling;
        final List<Node> parts;

        Node(int kind, int token, String spelling, Node... parts) {
            this.kind = kind;
            this.token = token;
            this.spelling = spelling;
            this.parts = new ArrayList<>(Arrays.asList(parts));
        }

        Node with(List<Node> more) {
            parts.addAll(more);
            return this;
        }

        void collect(List<Node> all) {
            all.add(this);
            for (Node part : parts) {
                part.collect(all);
            }
        }
    }

    Node text(int functions, int size) {
        Node text = new Node(0, -1, "");
        for (int i = 0; i < functions; i++) {
            text.parts.add(function(size));
        }
        return text;
    }

    /** A layout of tokens by chance; places gets the place of each. */
    String layout(List<String> row, int[] places) {
        StringBuilder text = new StringBuilder(blanks());
        for (int i = 0; i < row.size(); i++) {
            String token = row.get(i);
            if (mustPart(text, token)) {
                text.append(' ');
            }
            places[i] = text.length();
            text.append(token);
            String blanks = blanks();
            text.append(token.equals("/") && blanks.startsWith("/") ? " " : "").append(blanks);
        }
        return text.append(random.nextInt(5) == 0 ? "//" : "").toString();
    }

    private static boolean mustPart(StringBuilder text, String token) {
        if (text.length() == 0) {
            return false;
        }
        char last = text.charAt(text.length() - 1);
        return isWord(last) && isWord(token.charAt(0)) || last == '/' && token.charAt(0) == '/';
    }

    static boolean isWord(char c) {
        return c == '_' || c < 128 && Character.isLetterOrDigit(c);
    }

    private String blanks() {
        StringBuilder text = new StringBuilder();
        for (int i = random.nextInt(3) == 0 ? random.nextInt(4) : 0; i > 0; i--) {
            text.append(BLANKS[random.nextInt(BLANKS.length)]);
        }
        return text.toString();
    }

    private int put(String token) {
        tokens.add(token);
        return tokens.size() - 1;
    }

    private Node name() {
        String name = NAMES[random.nextInt(NAMES.length)];
        return new Node(13, put(name), name);
    }

    private Node number(boolean isLimit) {
        int[] often = {0, 1, 9, 10, 2147483647, random.nextInt(1000)};
        int number = often[random.nextInt(often.length)];
        int minus = isLimit && random.nextBoolean() ? put("-") : -1;
        int token = put("" + number);
        return new Node(12, minus < 0 ? token : minus, "" + (minus < 0 ? number : -number));
    }

    private int others(int size) {
        return size > 0 && random.nextInt(3) == 0 ? 1 + random.nextInt(3) : 0;
    }

    private Node function(int size) {
        int token = put("fun");
        Node function = new Node(1, token, "", name());
        put("(");
        for (int i = random.nextInt(3); i > 0; i--) {
            function.parts.add(name());
            put(i > 1 ? "," : ")");
        }
        if (function.parts.size() == 1) {
            put(")");
        }
        function.parts.add(block(size));
        return function;
    }

    private Node block(int size) {
        Node block = new Node(2, put("{"), "");
        for (int i = size > 0 ? random.nextInt(4) : 0; i > 0; i--) {
            block.parts.add(statement(size - 1));
        }
        put("}");
        return block;
    }

    private Node statement(int size) {
        switch (random.nextInt(9)) {
            case 0: return variable(size);
            case 1: return array();
            case 2: return assignment(size);
            case 3: return elementAssignment(size);
            case 4: return call(size);
            case 5: return branch(size);
            case 6: return loop(size);
            case 7: return assertion(size);
            default: return result(size);
        }
    }

    private Node variable(int size) {
        Node variable = new Node(3, put("var"), "", name());
        if (random.nextBoolean()) {
            put("=");
            variable.parts.add(sum(size));
        }
        put(";");
        return variable;
    }

    private Node array() {
        int token = put("var");
        Node name = name();
        put("[");
        Node array = new Node(4, token, "", name, number(false));
        put("]");
        put(";");
        return array;
    }

    private Node assignment(int size) {
        Node name = name();
        put("=");
        Node assignment = new Node(5, name.token, "", name, sum(size));
        put(";");
        return assignment;
    }

    private Node elementAssignment(int size) {
        Node element = element(size);
        put("=");
        Node assignment = new Node(6, element.token, "").with(element.parts);
        assignment.parts.add(sum(size));
        put(";");
        return assignment;
    }

    private Node element(int size) {
        Node name = name();
        put("[");
        Node element = new Node(14, name.token, "", name, sum(size));
        put("]");
        return element;
    }

    private Node call(int size) {
        Node front = null;
        if (random.nextBoolean()) {
            front = name();
            put("=");
        }
        Node function = name();
        if (front == null) {
            front = new Node(33, function.token, "");
        }
        Node call = new Node(7, front.token, "", front, function);
        put("(");
        for (int i = random.nextInt(3); i > 0; i--) {
            call.parts.add(sum(size));
            put(i > 1 ? "," : ")");
        }
        if (call.parts.size() == 2) {
            put(")");
        }
        put(";");
        return call;
    }

    private Node inBrackets(int size) {
        put("(");
        Node condition = condition(size);
        put(")");
        return condition;
    }

    private Node branch(int size) {
        Node branch = new Node(8, put("if"), "", inBrackets(size), block(size - 1));
        if (random.nextBoolean()) {
            put("else");
            branch.parts.add(block(size - 1));
        }
        return branch;
    }

    private Node loop(int size) {
        return new Node(9, put("while"), "", inBrackets(size), block(size - 1));
    }

    private Node assertion(int size) {
        Node assertion = new Node(10, put("assert"), "", inBrackets(size));
        put(";");
        return assertion;
    }

    private Node result(int size) {
        Node result = new Node(11, put("return"), "", sum(size));
        put(";");
        return result;
    }

    private Node sum(int size) {
        Node first = term(size - 1);
        Node sum = new Node(17, first.token, "", first);
        for (int i = others(size); i > 0; i--) {
            int sign = random.nextInt(2);
            sum.parts.add(new Node(18 + sign, put(sign == 0 ? "+" : "-"), "", term(size - 1)));
        }
        return sum.parts.size() == 1 ? first : sum;
    }

    private Node term(int size) {
        Node first = factor(size - 1);
        Node product = new Node(20, first.token, "", first);
        for (int i = others(size); i > 0; i--) {
            int sign = random.nextInt(3);
            product.parts.add(new Node(21 + sign, put("*/%".substring(sign, sign + 1)), "", factor(size - 1)));
        }
        return product.parts.size() == 1 ? first : product;
    }

    private Node factor(int size) {
        switch (size <= 0 ? random.nextInt(3) : random.nextInt(10)) {
            case 0:
            case 1: return name();
            case 2:
            case 3: return number(false);
            case 4: return element(size - 1);
            case 5:
            case 6: return new Node(15, put("-"), "", factor(size - 1));
            case 7: return any();
            default:
                put("(");
                Node inside = sum(size - 1);
                put(")");
                return inside;
        }
    }

    private Node any() {
        Node any = new Node(16, put("any"), "");
        if (random.nextBoolean()) {
            put("(");
            any.parts.add(number(true));
            put(",");
            any.parts.add(number(true));
            put(")");
        }
        return any;
    }

    private Node condition(int size) {
        Node first = both(size - 1);
        Node condition = new Node(24, first.token, "", first);
        for (int i = others(size); i > 0; i--) {
            put("||");
            condition.parts.add(both(size - 1));
        }
        return condition.parts.size() == 1 ? first : condition;
    }

    private Node both(int size) {
        Node first = test(size - 1);
        Node both = new Node(25, first.token, "", first);
        for (int i = others(size); i > 0; i--) {
            put("&&");
            both.parts.add(test(size - 1));
        }
        return both.parts.size() == 1 ? first : both;
    }

    private Node test(int size) {
        int choice = size <= 0 ? 9 : random.nextInt(10);
        if (choice < 2) {
            return new Node(26, put("!"), "", test(size - 1));
        }
        if (choice < 5) {
            put("[");
            Node inside = condition(size - 1);
            put("]");
            return inside;
        }
        Node first = sum(size - 2);
        int relation = random.nextInt(RELATIONS.length);
        put(RELATIONS[relation]);
        return new Node(27 + relation, first.token, "", first, sum(size - 2));
    }
}
