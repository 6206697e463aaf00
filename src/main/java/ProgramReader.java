import java.util.Arrays;

/**
 * Reads programs of a small language with functions, loops, arrays and conditions, of any layout,
 * into trees, tells the first fault of what is none, and writes trees, or parts of them, with the
 * fewest brackets.
 */
public final class ProgramReader {
    public static final int NONE = -1;

    private static final int REFUSED = -2;
    private static final int TREES = 2;
    private static final int MOST_BYTES = 8000;
    private static final int BYTES_A_FEED = 20;
    private static final int MOST_DEEP = 60;
    private static final int MOST_NAME_BYTES = 30;

    // All that 512 calls can feed is some 10,000 bytes, so no name within the document's reach
    // meets these two limits; they only keep an object from growing behind its 512th call.
    private static final int MOST_NAMES = 8192;
    private static final int MOST_SPELLING = 16384;

    private final ByteRow fed;
    private ByteRow output;
    private ByteRow spare;
    private final Tokens tokens;
    private final Draft draft;
    private final Parser parser;
    private final Names nameTable;
    private final Writer writer;
    private final Tree[] trees;

    public ProgramReader() {
        fed = new ByteRow(MOST_BYTES);
        output = new ByteRow(MOST_BYTES);
        spare = new ByteRow(MOST_BYTES);
        tokens = new Tokens();
        draft = new Draft();
        parser = new Parser(tokens, draft);
        nameTable = new Names();
        writer = new Writer(nameTable);
        trees = new Tree[TREES];
        for (int tree = 0; tree < TREES; tree++) {
            trees[tree] = new Tree();
        }
    }

    public int feed(int a, int b, int c, int d, int e) {
        if (fed.count + BYTES_A_FEED > MOST_BYTES) {
            return NONE;
        }
        fed.addFour(a);
        fed.addFour(b);
        fed.addFour(c);
        fed.addFour(d);
        fed.addFour(e);
        return fed.count;
    }

    public int read(int tree, int n) {
        int length = n == NONE ? fed.count : n;
        if (!hasTree(tree) || length < 0 || length > fed.count) {
            return REFUSED;
        }
        tokens.scan(fed.bytes, length);
        int fault = parser.parse();
        trees[tree].lay(draft);
        numberNames(trees[tree]);
        fed.clear();
        return fault;
    }

    public int nodes(int tree) {
        return hasTree(tree) ? trees[tree].count : 0;
    }

    public int node(int tree, int k, int what) {
        return hasTree(tree) ? trees[tree].about(k, what) : REFUSED;
    }

    public int part(int tree, int k, int i) {
        return hasTree(tree) ? trees[tree].partAt(k, i) : NONE;
    }

    public int whole(int tree, int k) {
        return hasTree(tree) ? trees[tree].wholeOf(k) : NONE;
    }

    public int names() {
        return nameTable.count;
    }

    public int spelt(int name, int i) {
        return nameTable.byteOf(name, i);
    }

    public int write(int tree, int k) {
        if (!hasTree(tree) || !writer.compose(trees[tree], k, spare)) {
            return NONE;
        }
        ByteRow composed = spare;
        spare = output;
        output = composed;
        return output.count;
    }

    public int written(int i) {
        return output.byteAt(i);
    }

    public int again() {
        fed.copy(output);
        return fed.count;
    }

    public boolean same() {
        return trees[0].matches(trees[1]);
    }

    private boolean hasTree(int tree) {
        return tree >= 0 && tree < TREES;
    }

    // Names get their numbers from the finished tree, in the order of its nodes, which is that of
    // the text: so those of a function with a fault never get one.
    private void numberNames(Tree tree) {
        for (int k = 0; k < tree.count; k++) {
            if (tree.kinds[k] == Kind.NAME) {
                int from = tree.places[k];
                tree.values[k] = nameTable.numberOf(tokens.text, from, tokens.behindWord(from));
            }
        }
    }

    private static boolean isLetter(int b) {
        return b >= 'a' && b <= 'z' || b >= 'A' && b <= 'Z' || b == '_';
    }

    private static boolean isDigit(int b) {
        return b >= '0' && b <= '9';
    }

    private static boolean isWordByte(int b) {
        return isLetter(b) || isDigit(b);
    }

    private static boolean isBlank(int b) {
        return b == 9 || b == 10 || b == 13 || b == 32;
    }

    // Rows double, so that all rows an object ever makes hold no more than some twice the last.
    private static int roomier(int room, int needed) {
        return Math.max(needed, 2 * room);
    }

    /** The kinds of nodes, by the document's numbers. */
    private static final class Kind {
        static final int TEXT = 0;
        static final int FUNCTION = 1;
        static final int BLOCK = 2;
        static final int VAR = 3;
        static final int VAR_ARRAY = 4;
        static final int SET = 5;
        static final int SET_ELEMENT = 6;
        static final int CALL = 7;
        static final int IF = 8;
        static final int WHILE = 9;
        static final int ASSERT = 10;
        static final int RETURN = 11;
        static final int NUMBER = 12;
        static final int NAME = 13;
        static final int ELEMENT = 14;
        static final int NEGATIVE = 15;
        static final int ANY = 16;
        static final int SUM = 17;
        static final int PLUS = 18;
        static final int MINUS = 19;
        static final int PRODUCT = 20;
        static final int TIMES = 21;
        static final int OVER = 22;
        static final int REST = 23;
        static final int OR = 24;
        static final int AND = 25;
        static final int NOT = 26;
        static final int LESS = 27;
        static final int AT_MOST = 28;
        static final int MORE = 29;
        static final int AT_LEAST = 30;
        static final int EQUAL = 31;
        static final int UNEQUAL = 32;
        static final int NOTHING = 33;
    }

    /** The kinds of tokens; + to %, and the relations, in the order of the kinds of their nodes. */
    private static final class Token {
        static final int END = 0;
        static final int BAD = 1;
        static final int NAME = 2;
        static final int NUMBER = 3;
        static final int FUN = 4;
        static final int VAR = 5;
        static final int IF = 6;
        static final int ELSE = 7;
        static final int WHILE = 8;
        static final int ASSERT = 9;
        static final int RETURN = 10;
        static final int ANY = 11;
        static final int OPEN = 12;
        static final int CLOSE = 13;
        static final int CURLY_OPEN = 14;
        static final int CURLY_CLOSE = 15;
        static final int SQUARE_OPEN = 16;
        static final int SQUARE_CLOSE = 17;
        static final int COMMA = 18;
        static final int SEMICOLON = 19;
        static final int ASSIGN = 20;
        static final int NOT = 21;
        static final int PLUS = 22;
        static final int MINUS = 23;
        static final int TIMES = 24;
        static final int OVER = 25;
        static final int REST = 26;
        static final int LESS = 27;
        static final int AT_MOST = 28;
        static final int MORE = 29;
        static final int AT_LEAST = 30;
        static final int EQUAL = 31;
        static final int UNEQUAL = 32;
        static final int AND = 33;
        static final int OR = 34;
    }

    /** A row of bytes that grows up to a limit. */
    private static final class ByteRow {
        private static final int FIRST_ROOM = 64;

        byte[] bytes = new byte[FIRST_ROOM];
        int count = 0;
        boolean full = false;
        final int most;

        ByteRow(int most) {
            this.most = most;
        }

        void clear() {
            count = 0;
            full = false;
        }

        void add(int b) {
            if (count >= most) {
                full = true;
                return;
            }
            makeRoom(count + 1);
            bytes[count] = (byte) b;
            count++;
        }

        void addFour(int four) {
            add(four >>> 24);
            add(four >>> 16);
            add(four >>> 8);
            add(four);
        }

        void addRange(byte[] source, int from, int to) {
            int length = to - from;
            boolean isInside = from >= 0 && length >= 0 && to <= source.length;
            if (!isInside || length > most - count) {
                full = true;
                return;
            }
            makeRoom(count + length);
            System.arraycopy(source, from, bytes, count, length);
            count += length;
        }

        void copy(ByteRow other) {
            clear();
            addRange(other.bytes, 0, other.count);
        }

        int byteAt(int i) {
            return i >= 0 && i < count ? bytes[i] & 255 : NONE;
        }

        private void makeRoom(int needed) {
            if (needed > bytes.length) {
                bytes = Arrays.copyOf(bytes, Math.max(needed, 2 * bytes.length));
            }
        }
    }

    /** The tokens of a text, up to its end or to the first byte at which there is none. */
    private static final class Tokens {
        private static final long TOO_GREAT = 2147483648L;

        byte[] text = new byte[0];
        private int end = 0;
        private int[] kinds = new int[0];
        private int[] places = new int[0];
        private int[] values = new int[0];
        int count = 0;

        void scan(byte[] source, int length) {
            text = source;
            end = Math.min(length, source.length);
            makeRoom(end + 1);
            count = 0;
            int at = behindBlanks(0);
            for (int i = 0; i < end && at < end; i++) {
                at = behindBlanks(takeToken(at));
            }
            add(Token.END, end, 0);
        }

        int kindAt(int i) {
            return i >= 0 && i < count ? kinds[i] : Token.END;
        }

        int placeAt(int i) {
            return i >= 0 && i < count ? places[i] : end;
        }

        int valueAt(int i) {
            return i >= 0 && i < count ? values[i] : 0;
        }

        int behindWord(int from) {
            int at = from;
            while (at < end && isWordByte(text[at])) {
                at++;
            }
            return at;
        }

        private void makeRoom(int needed) {
            if (needed > kinds.length) {
                int room = roomier(kinds.length, needed);
                kinds = new int[room];
                places = new int[room];
                values = new int[room];
            }
        }

        private void add(int kind, int place, int value) {
            if (count < kinds.length) {
                kinds[count] = kind;
                places[count] = place;
                values[count] = value;
                count++;
            }
        }

        private int behindBlanks(int from) {
            boolean inRemark = false;
            int at = from;
            for (; at < end; at++) {
                if (inRemark) {
                    inRemark = text[at] != 10;
                } else if (startsRemark(at)) {
                    inRemark = true;
                } else if (!isBlank(text[at])) {
                    break;
                }
            }
            return at;
        }

        private boolean startsRemark(int at) {
            return at + 1 < end && text[at] == '/' && text[at + 1] == '/';
        }

        /** Answers the place behind the token; the end behind what is none, as all else is void. */
        private int takeToken(int at) {
            if (isLetter(text[at])) {
                return takeWord(at);
            }
            if (isDigit(text[at])) {
                return takeNumber(at);
            }
            int sign = signAt(at);
            return take(sign, at, at + (isLongSign(sign) ? 2 : 1), 0);
        }

        private int take(int kind, int from, int behind, int value) {
            add(kind, from, value);
            return kind == Token.BAD ? end : behind;
        }

        private int takeWord(int at) {
            int behind = behindWord(at);
            boolean tooLong = behind - at > MOST_NAME_BYTES;
            return take(tooLong ? Token.BAD : wordAt(at, behind), at, behind, 0);
        }

        private int takeNumber(int at) {
            long number = 0;
            int behind = at;
            for (; behind < end && isDigit(text[behind]); behind++) {
                number = Math.min(TOO_GREAT, 10 * number + text[behind] - '0');
            }
            boolean zeroInFront = text[at] == '0' && behind > at + 1;
            boolean letterBehind = behind < end && isLetter(text[behind]);
            if (number >= TOO_GREAT || zeroInFront || letterBehind) {
                return take(Token.BAD, at, behind, 0);
            }
            return take(Token.NUMBER, at, behind, (int) number);
        }

        private int wordAt(int from, int to) {
            for (int word = Token.FUN; word <= Token.ANY; word++) {
                if (isSpelt(wordText(word), from, to)) {
                    return word;
                }
            }
            return Token.NAME;
        }

        private boolean isSpelt(String word, int from, int to) {
            if (word.length() != to - from) {
                return false;
            }
            for (int i = 0; i < word.length(); i++) {
                if (text[from + i] != word.charAt(i)) {
                    return false;
                }
            }
            return true;
        }

        private static String wordText(int word) {
            switch (word) {
                case Token.FUN: return "fun";
                case Token.VAR: return "var";
                case Token.IF: return "if";
                case Token.ELSE: return "else";
                case Token.WHILE: return "while";
                case Token.ASSERT: return "assert";
                case Token.RETURN: return "return";
                case Token.ANY: return "any";
                default: return "";
            }
        }

        private static boolean isLongSign(int sign) {
            return sign > Token.LESS && sign != Token.MORE;
        }

        private int signAt(int at) {
            int next = at + 1 < end ? text[at + 1] : 0;
            switch (text[at]) {
                case '(': return Token.OPEN;
                case ')': return Token.CLOSE;
                case '{': return Token.CURLY_OPEN;
                case '}': return Token.CURLY_CLOSE;
                case '[': return Token.SQUARE_OPEN;
                case ']': return Token.SQUARE_CLOSE;
                case ',': return Token.COMMA;
                case ';': return Token.SEMICOLON;
                case '+': return Token.PLUS;
                case '-': return Token.MINUS;
                case '*': return Token.TIMES;
                case '/': return Token.OVER;
                case '%': return Token.REST;
                case '=': return next == '=' ? Token.EQUAL : Token.ASSIGN;
                case '<': return next == '=' ? Token.AT_MOST : Token.LESS;
                case '>': return next == '=' ? Token.AT_LEAST : Token.MORE;
                case '!': return next == '=' ? Token.UNEQUAL : Token.NOT;
                case '&': return next == '&' ? Token.AND : Token.BAD;
                case '|': return next == '|' ? Token.OR : Token.BAD;
                default: return Token.BAD;
            }
        }
    }

    /**
     * Nodes in the order in which they are finished, each behind all that is in it: whether a sum
     * or product is one is only known behind its first part.
     */
    private static final class Draft {
        int[] kinds = new int[0];
        int[] places = new int[0];
        int[] values = new int[0];
        int[] sizes = new int[0];
        int count = 0;

        void begin(int most) {
            if (most > kinds.length) {
                int room = roomier(kinds.length, most);
                kinds = new int[room];
                places = new int[room];
                values = new int[room];
                sizes = new int[room];
            }
            count = 0;
        }

        void add(int kind, int place, int value, int size) {
            if (count < kinds.length) {
                kinds[count] = kind;
                places[count] = place;
                values[count] = value;
                sizes[count] = size;
                count++;
            }
        }

        int lastPlace() {
            return count > 0 ? places[count - 1] : NONE;
        }
    }

    /**
     * Drafts the nodes of a row of tokens. At the first fault it throws, the token at which it
     * stands being the fault. Every loop goes on by a token, so their number bounds it.
     */
    private static final class Parser {
        private final Tokens tokens;
        private final Draft draft;
        private int at = 0;

        Parser(Tokens tokens, Draft draft) {
            this.tokens = tokens;
            this.draft = draft;
        }

        /** Answers the place of the fault, or NONE. */
        int parse() {
            at = 0;
            // No token brings more than two nodes (+ a sum and its part, ( a call and NOTHING).
            draft.begin(2 * tokens.count + 1);
            int fault = NONE;
            int kept = 0;
            try {
                for (int i = 0; i < tokens.count && (i == 0 || !isAt(Token.END, Token.END)); i++) {
                    function();
                    kept = draft.count;
                }
            } catch (IllegalStateException refused) {
                fault = tokens.placeAt(at);
                draft.count = kept;
            }
            draft.add(Kind.TEXT, NONE, 0, draft.count + 1);
            return fault;
        }

        private void function() {
            int start = draft.count;
            int place = tokens.placeAt(at);
            take(Token.FUN);
            name();
            take(Token.OPEN);
            if (tokens.kindAt(at) == Token.NAME) {
                name();
                for (int i = 0; i < tokens.count && skip(Token.COMMA); i++) {
                    name();
                }
            }
            take(Token.CLOSE);
            block(1);
            finish(Kind.FUNCTION, place, start);
        }

        private void block(int depth) {
            limit(depth);
            int start = draft.count;
            int place = tokens.placeAt(at);
            take(Token.CURLY_OPEN);
            for (int i = 0; i < tokens.count && !skip(Token.CURLY_CLOSE); i++) {
                statement(depth);
            }
            finish(Kind.BLOCK, place, start);
        }

        private void statement(int depth) {
            int start = draft.count;
            int place = tokens.placeAt(at);
            int kind;
            switch (tokens.kindAt(at)) {
                case Token.VAR:
                    kind = variable(depth);
                    break;
                case Token.NAME:
                    kind = isCall() ? call(depth) : assignment(depth);
                    break;
                case Token.IF:
                case Token.WHILE:
                case Token.ASSERT:
                    kind = conditional(depth);
                    break;
                default:
                    take(Token.RETURN);
                    sum(depth + 1);
                    take(Token.SEMICOLON);
                    kind = Kind.RETURN;
            }
            finish(kind, place, start);
        }

        private int variable(int depth) {
            int kind = Kind.VAR;
            take(Token.VAR);
            name();
            if (skip(Token.ASSIGN)) {
                sum(depth + 1);
            } else if (skip(Token.SQUARE_OPEN)) {
                number(false);
                take(Token.SQUARE_CLOSE);
                kind = Kind.VAR_ARRAY;
            }
            take(Token.SEMICOLON);
            return kind;
        }

        private boolean isCall() {
            int next = tokens.kindAt(at + 1);
            return next == Token.OPEN
                || next == Token.ASSIGN
                    && tokens.kindAt(at + 2) == Token.NAME
                    && tokens.kindAt(at + 3) == Token.OPEN;
        }

        private int call(int depth) {
            if (tokens.kindAt(at + 1) == Token.OPEN) {
                draft.add(Kind.NOTHING, tokens.placeAt(at), 0, 1);
            } else {
                name();
                take(Token.ASSIGN);
            }
            name();
            take(Token.OPEN);
            if (tokens.kindAt(at) != Token.CLOSE) {
                sum(depth + 1);
                for (int i = 0; i < tokens.count && skip(Token.COMMA); i++) {
                    sum(depth + 1);
                }
            }
            take(Token.CLOSE);
            take(Token.SEMICOLON);
            return Kind.CALL;
        }

        private int assignment(int depth) {
            int kind = Kind.SET;
            name();
            if (skip(Token.SQUARE_OPEN)) {
                sum(depth + 1);
                take(Token.SQUARE_CLOSE);
                kind = Kind.SET_ELEMENT;
            }
            take(Token.ASSIGN);
            sum(depth + 1);
            take(Token.SEMICOLON);
            return kind;
        }

        private int conditional(int depth) {
            int word = tokens.kindAt(at);
            take(word);
            condition(depth + 1, Token.OPEN, Token.CLOSE);
            if (word == Token.ASSERT) {
                take(Token.SEMICOLON);
                return Kind.ASSERT;
            }
            block(depth + 1);
            if (word == Token.WHILE) {
                return Kind.WHILE;
            }
            if (skip(Token.ELSE)) {
                block(depth + 1);
            }
            return Kind.IF;
        }

        private void condition(int depth, int open, int close) {
            take(open);
            limit(depth);
            int start = draft.count;
            both(depth);
            int place = draft.lastPlace();
            int others = 0;
            for (; others < tokens.count && skip(Token.OR); others++) {
                both(depth);
            }
            if (others > 0) {
                finish(Kind.OR, place, start);
            }
            take(close);
        }

        private void both(int depth) {
            int start = draft.count;
            test(depth);
            int place = draft.lastPlace();
            int others = 0;
            for (; others < tokens.count && skip(Token.AND); others++) {
                test(depth);
            }
            if (others > 0) {
                finish(Kind.AND, place, start);
            }
        }

        private void test(int depth) {
            limit(depth);
            int start = draft.count;
            int place = tokens.placeAt(at);
            if (skip(Token.NOT)) {
                test(depth + 1);
                finish(Kind.NOT, place, start);
            } else if (tokens.kindAt(at) == Token.SQUARE_OPEN) {
                condition(depth + 1, Token.SQUARE_OPEN, Token.SQUARE_CLOSE);
            } else {
                sum(depth + 1);
                place = draft.lastPlace();
                int relation = tokens.kindAt(at);
                if (!isAt(Token.LESS, Token.UNEQUAL)) {
                    refuse();
                }
                take(relation);
                sum(depth + 1);
                finish(Kind.LESS + relation - Token.LESS, place, start);
            }
        }

        private void sum(int depth) {
            limit(depth);
            int start = draft.count;
            term(depth);
            int place = draft.lastPlace();
            int others = 0;
            for (; others < tokens.count && isAt(Token.PLUS, Token.MINUS); others++) {
                int sign = tokens.kindAt(at);
                int signPlace = tokens.placeAt(at);
                int signStart = draft.count;
                take(sign);
                term(depth);
                finish(Kind.PLUS + sign - Token.PLUS, signPlace, signStart);
            }
            if (others > 0) {
                finish(Kind.SUM, place, start);
            }
        }

        private void term(int depth) {
            int start = draft.count;
            factor(depth);
            int place = draft.lastPlace();
            int others = 0;
            for (; others < tokens.count && isAt(Token.TIMES, Token.REST); others++) {
                int sign = tokens.kindAt(at);
                int signPlace = tokens.placeAt(at);
                int signStart = draft.count;
                take(sign);
                factor(depth);
                finish(Kind.TIMES + sign - Token.TIMES, signPlace, signStart);
            }
            if (others > 0) {
                finish(Kind.PRODUCT, place, start);
            }
        }

        private void factor(int depth) {
            limit(depth);
            int start = draft.count;
            int place = tokens.placeAt(at);
            if (tokens.kindAt(at) == Token.NUMBER) {
                number(false);
            } else if (skip(Token.MINUS)) {
                factor(depth + 1);
                finish(Kind.NEGATIVE, place, start);
            } else if (skip(Token.OPEN)) {
                sum(depth + 1);
                take(Token.CLOSE);
            } else if (skip(Token.ANY)) {
                if (skip(Token.OPEN)) {
                    number(true);
                    take(Token.COMMA);
                    number(true);
                    take(Token.CLOSE);
                }
                finish(Kind.ANY, place, start);
            } else {
                name();
                if (skip(Token.SQUARE_OPEN)) {
                    sum(depth + 1);
                    take(Token.SQUARE_CLOSE);
                    finish(Kind.ELEMENT, place, start);
                }
            }
        }

        private void number(boolean isLimit) {
            int place = tokens.placeAt(at);
            int sign = 1;
            if (isLimit && tokens.kindAt(at) == Token.MINUS) {
                sign = -1;
                at++;
            }
            if (tokens.kindAt(at) != Token.NUMBER) {
                refuse();
            }
            draft.add(Kind.NUMBER, place, sign * tokens.valueAt(at), 1);
            at++;
        }

        private void name() {
            if (tokens.kindAt(at) != Token.NAME) {
                refuse();
            }
            draft.add(Kind.NAME, tokens.placeAt(at), 0, 1);
            at++;
        }

        private void finish(int kind, int place, int start) {
            draft.add(kind, place, 0, draft.count - start + 1);
        }

        // Nobody takes END or BAD, so the row's last token is never passed.
        private void take(int kind) {
            if (tokens.kindAt(at) != kind) {
                refuse();
            }
            at++;
        }

        private boolean skip(int kind) {
            if (tokens.kindAt(at) != kind) {
                return false;
            }
            at++;
            return true;
        }

        /** Whether the kind of the next token is one of those from first to last. */
        private boolean isAt(int first, int last) {
            int kind = tokens.kindAt(at);
            return kind >= first && kind <= last;
        }

        private void limit(int depth) {
            if (depth > MOST_DEEP) {
                refuse();
            }
        }

        private void refuse() {
            throw new IllegalStateException();
        }
    }

    /** Nodes as they stand in the text, each before all that is in it; a TEXT alone at first. */
    private static final class Tree {
        int count = 1;
        int[] kinds = new int[1];
        int[] places = {NONE};
        int[] values = new int[1];
        int[] sizes = {1};
        int[] parts = new int[1];
        int[] wholes = {NONE};
        /** Which part of its whole a node is, from 0. */
        int[] ranks = new int[1];

        boolean has(int k) {
            return k >= 0 && k < count;
        }

        void lay(Draft draft) {
            makeRoom(draft.count);
            count = draft.count;
            placeNodes(draft);
            countParts();
        }

        int about(int k, int what) {
            if (!has(k)) {
                return REFUSED;
            }
            switch (what) {
                case 0: return kinds[k];
                case 1: return places[k];
                case 2: return values[k];
                case 3: return sizes[k];
                case 4: return parts[k];
                default: return REFUSED;
            }
        }

        int kindOf(int k) {
            return has(k) ? kinds[k] : Kind.NOTHING;
        }

        int valueOf(int k) {
            return has(k) ? values[k] : 0;
        }

        int partsOf(int k) {
            return has(k) ? parts[k] : 0;
        }

        int wholeOf(int k) {
            return has(k) ? wholes[k] : NONE;
        }

        int rankOf(int k) {
            return has(k) ? ranks[k] : 0;
        }

        int partAt(int k, int i) {
            if (i < 0 || i >= partsOf(k)) {
                return NONE;
            }
            int at = k + 1;
            for (int passed = 0; passed < i && has(at); passed++) {
                at += sizes[at];
            }
            return at;
        }

        boolean matches(Tree other) {
            if (count != other.count) {
                return false;
            }
            for (int k = 0; k < count; k++) {
                if (kinds[k] != other.kinds[k]
                        || values[k] != other.values[k]
                        || sizes[k] != other.sizes[k]) {
                    return false;
                }
            }
            return true;
        }

        private void makeRoom(int needed) {
            if (needed > kinds.length) {
                int room = roomier(kinds.length, needed);
                kinds = new int[room];
                places = new int[room];
                values = new int[room];
                sizes = new int[room];
                parts = new int[room];
                wholes = new int[room];
                ranks = new int[room];
            }
        }

        // What is in a node stands right before it in the draft and right behind it here: before
        // the first of that come the same nodes there as here, but for the wholes round the node.
        // So node i goes to the draft place of its first one, and one further for each such whole.
        private void placeNodes(Draft draft) {
            int whole = NONE;
            int wholesRound = 0;
            for (int i = draft.count - 1; i >= 0; i--) {
                for (; wholesRound > 0 && i <= whole - wholesRound; wholesRound--) {
                    whole = wholeOf(whole);
                }
                int k = i - draft.sizes[i] + 1 + wholesRound;
                placeNode(k, draft, i, whole);
                whole = k;
                wholesRound++;
            }
        }

        private void placeNode(int k, Draft draft, int i, int whole) {
            if (has(k)) {
                kinds[k] = draft.kinds[i];
                places[k] = draft.places[i];
                values[k] = draft.values[i];
                sizes[k] = draft.sizes[i];
                wholes[k] = whole;
            }
        }

        private void countParts() {
            for (int k = 0; k < count; k++) {
                parts[k] = 0;
                ranks[k] = 0;
                int whole = wholes[k];
                if (has(whole)) {
                    ranks[k] = parts[whole];
                    parts[whole]++;
                }
            }
        }
    }

    /** All names read so far, found again by chains of those with the same hash. */
    private static final class Names {
        // A power of two, so that a mask picks the chain.
        private static final int FIRST_ROOM = 16;

        int count = 0;
        private final ByteRow spelling = new ByteRow(MOST_SPELLING);
        /** Where the spelling of a name ends; that of the next one begins there. */
        private int[] stops = new int[FIRST_ROOM];
        private int[] nexts = new int[FIRST_ROOM];
        private int[] heads = new int[FIRST_ROOM];

        Names() {
            Arrays.fill(heads, NONE);
        }

        int byteOf(int name, int i) {
            if (name < 0 || name >= count || i < 0 || i >= stops[name] - start(name)) {
                return NONE;
            }
            return spelling.byteAt(start(name) + i);
        }

        int numberOf(byte[] text, int from, int to) {
            int name = heads[chain(text, from, to)];
            for (int passed = 0; passed < count && name != NONE; passed++) {
                if (isSpelt(name, text, from, to)) {
                    return name;
                }
                name = nexts[name];
            }
            return add(text, from, to);
        }

        void spell(int name, ByteRow target) {
            if (name >= 0 && name < count) {
                target.addRange(spelling.bytes, start(name), stops[name]);
            }
        }

        private int start(int name) {
            return name == 0 ? 0 : stops[name - 1];
        }

        private boolean isSpelt(int name, byte[] text, int from, int to) {
            int start = start(name);
            if (stops[name] - start != to - from) {
                return false;
            }
            for (int i = 0; i < to - from; i++) {
                if (spelling.bytes[start + i] != text[from + i]) {
                    return false;
                }
            }
            return true;
        }

        private int add(byte[] text, int from, int to) {
            if (count >= MOST_NAMES || spelling.count + to - from > MOST_SPELLING) {
                return NONE;
            }
            if (count >= stops.length) {
                grow();
            }
            spelling.addRange(text, from, to);
            stops[count] = spelling.count;
            count++;
            link(count - 1);
            return count - 1;
        }

        private void grow() {
            int room = 2 * stops.length;
            stops = Arrays.copyOf(stops, room);
            nexts = new int[room];
            heads = new int[room];
            Arrays.fill(heads, NONE);
            for (int name = 0; name < count; name++) {
                link(name);
            }
        }

        private void link(int name) {
            int chain = chain(spelling.bytes, start(name), stops[name]);
            nexts[name] = heads[chain];
            heads[chain] = name;
        }

        private int chain(byte[] text, int from, int to) {
            int hash = 0;
            for (int i = from; i < to; i++) {
                hash = 31 * hash + text[i];
            }
            return hash & heads.length - 1;
        }
    }

    /**
     * Writes a node by a walk over it and all in it: what begins each, what stands between it and
     * the part before it, and, behind its last part, what ends it.
     */
    private static final class Writer {
        private static final int GREATEST_UNIT = 1000000000;

        private final Names names;
        private Tree tree = new Tree();
        private ByteRow target = new ByteRow(MOST_BYTES);

        Writer(Names names) {
            this.names = names;
        }

        /** Answers whether there is such a node, and room for all of it. */
        boolean compose(Tree source, int top, ByteRow row) {
            if (!source.has(top)) {
                return false;
            }
            tree = source;
            target = row;
            target.clear();
            int end = top + tree.sizes[top];
            begin(top);
            for (int k = top + 1; k < end && !target.full; k++) {
                int whole = tree.wholeOf(k);
                endDownTo(whole, k - 1);
                put(joint(whole, tree.rankOf(k)));
                put(isBracketed(k) ? opening(k) : "");
                begin(k);
            }
            endDownTo(top, end - 1);
            put(ending(top));
            return !target.full;
        }

        private void endDownTo(int whole, int last) {
            int k = last;
            for (int ended = 0; ended < tree.count && k > whole; ended++) {
                put(ending(k));
                put(isBracketed(k) ? closing(k) : "");
                k = tree.wholeOf(k);
            }
        }

        private void begin(int k) {
            int kind = tree.kindOf(k);
            if (kind == Kind.NUMBER) {
                putNumber(tree.valueOf(k));
            } else if (kind == Kind.NAME) {
                putName(tree.valueOf(k));
            } else {
                put(beginning(kind));
            }
        }

        private static String beginning(int kind) {
            switch (kind) {
                case Kind.FUNCTION: return "fun";
                case Kind.BLOCK: return "{";
                case Kind.VAR:
                case Kind.VAR_ARRAY: return "var";
                case Kind.IF: return "if(";
                case Kind.WHILE: return "while(";
                case Kind.ASSERT: return "assert(";
                case Kind.RETURN: return "return";
                case Kind.ANY: return "any";
                case Kind.PLUS: return "+";
                case Kind.NEGATIVE:
                case Kind.MINUS: return "-";
                case Kind.TIMES: return "*";
                case Kind.OVER: return "/";
                case Kind.REST: return "%";
                case Kind.NOT: return "!";
                default: return "";
            }
        }

        private String joint(int whole, int rank) {
            switch (tree.kindOf(whole)) {
                case Kind.FUNCTION: return functionJoint(whole, rank);
                case Kind.CALL: return callJoint(whole, rank);
                case Kind.SET_ELEMENT: return rank == 0 ? "" : rank == 1 ? "[" : "]=";
                case Kind.IF: return rank == 0 ? "" : rank == 1 ? ")" : "else";
                case Kind.ANY: return rank == 0 ? "(" : ",";
                default: return rank == 0 ? "" : laterJoint(tree.kindOf(whole));
            }
        }

        private String functionJoint(int whole, int rank) {
            if (rank == 0) {
                return "";
            }
            if (rank == tree.partsOf(whole) - 1) {
                return rank == 1 ? "()" : ")";
            }
            return rank == 1 ? "(" : ",";
        }

        private String callJoint(int whole, int rank) {
            switch (rank) {
                case 0: return "";
                case 1: return tree.kindOf(tree.partAt(whole, 0)) == Kind.NOTHING ? "" : "=";
                case 2: return "(";
                default: return ",";
            }
        }

        private static String laterJoint(int kind) {
            switch (kind) {
                case Kind.VAR:
                case Kind.SET: return "=";
                case Kind.VAR_ARRAY:
                case Kind.ELEMENT: return "[";
                case Kind.WHILE: return ")";
                case Kind.OR: return "||";
                case Kind.AND: return "&&";
                case Kind.LESS: return "<";
                case Kind.AT_MOST: return "<=";
                case Kind.MORE: return ">";
                case Kind.AT_LEAST: return ">=";
                case Kind.EQUAL: return "==";
                case Kind.UNEQUAL: return "!=";
                default: return "";
            }
        }

        private String ending(int k) {
            switch (tree.kindOf(k)) {
                case Kind.BLOCK: return "}";
                case Kind.VAR:
                case Kind.SET:
                case Kind.SET_ELEMENT:
                case Kind.RETURN: return ";";
                case Kind.VAR_ARRAY: return "];";
                case Kind.CALL: return tree.partsOf(k) == 2 ? "();" : ");";
                case Kind.ASSERT: return ");";
                case Kind.ELEMENT: return "]";
                case Kind.ANY: return tree.partsOf(k) == 0 ? "" : ")";
                default: return "";
            }
        }

        private boolean isBracketed(int k) {
            int whole = tree.kindOf(tree.wholeOf(k));
            switch (tree.kindOf(k)) {
                case Kind.SUM: return whole >= Kind.NEGATIVE && whole <= Kind.REST;
                case Kind.PRODUCT:
                    return whole == Kind.NEGATIVE || whole >= Kind.PRODUCT && whole <= Kind.REST;
                case Kind.OR: return whole >= Kind.OR && whole <= Kind.NOT;
                case Kind.AND: return whole == Kind.AND || whole == Kind.NOT;
                default: return false;
            }
        }

        private String opening(int k) {
            return isCondition(k) ? "[" : "(";
        }

        private String closing(int k) {
            return isCondition(k) ? "]" : ")";
        }

        private boolean isCondition(int k) {
            return tree.kindOf(k) == Kind.OR || tree.kindOf(k) == Kind.AND;
        }

        private void put(String signs) {
            if (signs.isEmpty()) {
                return;
            }
            putGap(signs.charAt(0));
            for (int i = 0; i < signs.length(); i++) {
                target.add(signs.charAt(i));
            }
        }

        private void putGap(int next) {
            if (isWordByte(next) && isWordByte(target.byteAt(target.count - 1))) {
                target.add(' ');
            }
        }

        private void putName(int name) {
            putGap(names.byteOf(name, 0));
            names.spell(name, target);
        }

        private void putNumber(int number) {
            if (number < 0) {
                target.add('-');
            }
            int left = Math.abs(number);
            boolean begun = false;
            for (int unit = GREATEST_UNIT; unit > 0; unit /= 10) {
                int digit = '0' + left / unit % 10;
                if (!begun && (digit != '0' || unit == 1)) {
                    putGap(digit);
                    begun = true;
                }
                if (begun) {
                    target.add(digit);
                }
            }
        }
    }
}
