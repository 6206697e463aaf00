/** "What it is": every one of 512 calls on an object has its due answer, the 512th too. */
public final class CallsTest {
    private static final Checks CHECKS = new Checks("512 calls");
    private static final int MOST_CALLS = 512;

    private static int calls;

    public static void main(String[] args) {
        CHECKS.sentence("An object is used for at most 512 calls after it has been made");
        feedsOnly();
        fullText();
        newNames();
        lastNameSpelt();
        longNames();
        faultsOnly();
        emptyReads();
        roundAndRound();
        questionsOnly();
        twoObjects();
        CHECKS.end();
    }

    private static void due(String what, long got, long due) {
        calls++;
        CHECKS.equal("call " + calls + ", " + what, got, due);
    }

    private static void begin() {
        calls = 0;
    }

    private static void end() {
        CHECKS.equal("this run's calls", calls, MOST_CALLS);
    }

    private static int feed(ProgramReader reader, String text, int from) {
        int[] ints = Checks.fiveInts(text, from);
        return reader.feed(ints[0], ints[1], ints[2], ints[3], ints[4]);
    }

    private static void feedAll(ProgramReader reader, String text) {
        for (int from = 0; from < text.length(); from += 20) {
            due("feed", feed(reader, text, from), from + 20);
        }
    }

    private static void feedsOnly() {
        begin();
        ProgramReader reader = new ProgramReader();
        for (int i = 1; i <= 512; i++) {
            due("feed", reader.feed(i, i, i, i, i), i <= 400 ? 20 * i : -1);
        }
        end();
    }

    private static void fullText() {
        begin();
        ProgramReader reader = new ProgramReader();
        String text = "fun f(){x=ab" + Checks.repeat("+a", 3993) + ";}";
        feedAll(reader, text);
        for (int i = 0; i < 108; i++) {
            due("feed", reader.feed(0, 0, 0, 0, 0), -1);
        }
        due("read", reader.read(0, -1), -1);
        due("nodes", reader.nodes(0), 8 + 2 * 3993);
        due("write", reader.write(0, 0), 8000);
        due("again", reader.again(), 8000);
        end();
    }

    // As many new names as 512 calls can bring: each as short as it can be.
    private static void newNames() {
        begin();
        ProgramReader reader = new ProgramReader();
        int names = 1 + readNames(reader, 0, 8000, 0);
        names += readNames(reader, 1, 109 * 20, names - 1);
        due("names", reader.names(), names);
        end();
    }

    private static void lastNameSpelt() {
        begin();
        ProgramReader reader = new ProgramReader();
        int names = 1 + readNames(reader, 1, 8000, 0);
        names += readNames(reader, 0, 108 * 20, names - 1);
        String last = shortName(names - 2);
        due("spelt", reader.spelt(names - 1, 0), last.charAt(0));
        due("spelt", reader.spelt(names - 1, last.length() - 1), last.charAt(last.length() - 1));
        end();
    }

    // As many bytes of names as 512 calls can bring: each as long as it can be.
    private static void longNames() {
        begin();
        ProgramReader reader = new ProgramReader();
        int first = readLongNames(reader, 0, 8000, 0);
        int names = 1 + first + readLongNames(reader, 1, 107 * 20, first);
        due("names", reader.names(), names);
        String last = longName(names - 2);
        due("spelt", reader.spelt(names - 1, 29), last.charAt(29));
        due("spelt", reader.spelt(names - 1, 30), -1);
        end();
    }

    private static int readLongNames(ProgramReader reader, int tree, int bytes, int known) {
        StringBuilder text = new StringBuilder("fun function(");
        int names = 0;
        for (; text.length() + 34 <= bytes; names++) {
            text.append(names == 0 ? "" : ",").append(longName(known + names));
        }
        text.append("){}").append(Checks.repeat(" ", bytes - text.length()));
        feedAll(reader, text.toString());
        due("read", reader.read(tree, bytes), -1);
        return names;
    }

    private static String longName(int i) {
        return "abcdefghijklmnopqrstuvwxyz" + (1000 + i);
    }

    /** Answers how many names stood in the brackets, each a new one. */
    private static int readNames(ProgramReader reader, int tree, int bytes, int known) {
        StringBuilder text = new StringBuilder("fun function(");
        int names = 0;
        for (int i = 0; text.length() + shortName(known + i).length() + 4 <= bytes; i++) {
            text.append(i == 0 ? "" : ",").append(shortName(known + i));
            names++;
        }
        text.append("){}");
        feedAll(reader, text.toString());
        due("read", reader.read(tree, text.length()), -1);
        return names;
    }

    private static String shortName(int i) {
        String first = "abcdefghijklmnopqrstuvwxyzABCDEFGHIJKLMNOPQRSTUVWXYZ_";
        String more = first + "0123456789";
        if (i < 53) {
            return first.substring(i, i + 1);
        }
        int rest = i - 53;
        if (rest < 53 * 63) {
            // The two-byte WORD is none; what stands for it is as good as new.
            String name = "" + first.charAt(rest / 63) + more.charAt(rest % 63);
            return name.equals("if") ? "if_" : name;
        }
        return "__" + more.charAt(rest - 53 * 63);
    }

    private static void faultsOnly() {
        begin();
        ProgramReader reader = new ProgramReader();
        for (int i = 0; i < 255; i++) {
            due("feed", feed(reader, "fun new" + i + "(){x}", 0), 20);
            due("read", reader.read(i % 2, 20), ("fun new" + i + "(){x").length());
        }
        due("names", reader.names(), 0);
        due("nodes", reader.nodes(0), 1);
        end();
    }

    private static void emptyReads() {
        begin();
        ProgramReader reader = new ProgramReader();
        for (int i = 0; i < 511; i++) {
            due("read", reader.read(i % 2, i % 3 == 0 ? -1 : 0), 0);
        }
        due("same", reader.same() ? 1 : 0, 1);
        end();
    }

    private static void roundAndRound() {
        begin();
        ProgramReader reader = new ProgramReader();
        String text = "fun f(a){if(a<1){x=a*(1+2);}else{g(a,x[1]);}}";
        feedAll(reader, text);
        due("read", reader.read(0, text.length()), -1);
        for (int i = 0; i < 127; i++) {
            due("write", reader.write(i % 2, 0), text.length());
            due("again", reader.again(), text.length());
            due("read", reader.read(1 - i % 2, -1), -1);
            due("same", reader.same() ? 1 : 0, 1);
        }
        end();
    }

    private static void questionsOnly() {
        begin();
        ProgramReader reader = new ProgramReader();
        due("feed", feed(reader, "fun f(){return 7;}", 0), 20);
        due("read", reader.read(0, 20), -1);
        due("write", reader.write(0, 4), 9);
        for (int i = 0; i < 63; i++) {
            due("nodes", reader.nodes(0), 6);
            due("node", reader.node(0, 5, 2), 7);
            due("part", reader.part(0, 3, 0), 4);
            due("whole", reader.whole(0, 5), 4);
            due("names", reader.names(), 1);
            due("spelt", reader.spelt(0, 0), 'f');
            due("written", reader.written(8), ';');
            due("same", reader.same() ? 1 : 0, 0);
        }
        due("again", reader.again(), 9);
        due("feed", reader.feed(0, 0, 0, 0, 0), 29);
        due("refused", reader.read(0, 30), -2);
        due("read", reader.read(0, 29), 0);
        due("nodes", reader.nodes(0), 1);
        end();
    }

    // Each object has its own 512 calls, and nothing of the other one.
    private static void twoObjects() {
        begin();
        ProgramReader one = new ProgramReader();
        ProgramReader other = new ProgramReader();
        for (int i = 0; i < 256; i++) {
            due("feed", feed(one, "fun f(a" + i + "){}", 0), 20);
            CHECKS.equal("feed the other", feed(other, "fun b" + i + "(c,d){}", 0), 20);
            due("read", one.read(0, 20), -1);
            CHECKS.equal("read the other", other.read(1, 20), -1);
        }
        end();
        ProgramReader third = new ProgramReader();
        CHECKS.equal("a third one has no names", third.names(), 0);
        CHECKS.equal("nor bytes", third.read(0, 1), -2);
    }
}
