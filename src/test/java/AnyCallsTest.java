import java.lang.management.ManagementFactory;
import java.util.Random;

/** Any calls in any order: none throws, the same calls answer the same, and the room is kept. */
public final class AnyCallsTest {
    private static final Checks CHECKS = new Checks("any calls");
    private static final String[] PIECES = {"fun f(){", "}", "x=", "a", "1", ";", "(", ")", "+", "*",
        "if(1<2){", "[", "]", "-", "<", "any", "g(", ",", " ", "//", "\n", "else{", "!", "&&", "||", "fun ",
        "var ", "q", "99999999999", "\200", "return "};
    private static final int[] EDGES = {0, 1, 2, 3, 4, 5, -1, -2, 20, 60, 7999, 8000, 8001,
        Integer.MAX_VALUE, Integer.MIN_VALUE};

    public static void main(String[] args) {
        for (int seed = 0; seed < 300; seed++) {
            lockstep(seed);
        }
        farBeyond();
        room();
        CHECKS.end();
    }

    private static void lockstep(int seed) {
        Random first = new Random(seed);
        Random second = new Random(seed);
        ProgramReader one = new ProgramReader();
        ProgramReader other = new ProgramReader();
        for (int i = 0; i < 512; i++) {
            CHECKS.equal("call " + i + " of run " + seed, call(one, first), call(other, second));
        }
    }

    private static long call(ProgramReader reader, Random random) {
        switch (random.nextInt(16)) {
            case 0: return reader.feed(random.nextInt(), random.nextInt(), random.nextInt(), random.nextInt(), 0);
            case 1:
            case 2:
            case 3:
            case 4: return feed(reader, pieces(random));
            case 5: return reader.read(random.nextInt(2), ProgramReader.NONE);
            case 6: return reader.read(number(random), number(random));
            case 7: return reader.nodes(number(random));
            case 8: return reader.node(random.nextInt(2), number(random), random.nextInt(7) - 1);
            case 9: return reader.part(random.nextInt(2), number(random), number(random));
            case 10: return reader.whole(number(random), number(random));
            case 11: return random.nextBoolean() ? reader.names() : reader.spelt(number(random), number(random));
            case 12: return reader.write(random.nextInt(2), 0);
            case 13: return reader.write(number(random), number(random));
            case 14: return random.nextBoolean() ? reader.written(number(random)) : reader.again();
            default: return reader.same() ? 1 : 0;
        }
    }

    private static int number(Random random) {
        return random.nextInt(3) == 0 ? EDGES[random.nextInt(EDGES.length)] : random.nextInt(12);
    }

    private static int feed(ProgramReader reader, String twentyBytes) {
        int[] ints = Checks.fiveInts(twentyBytes, 0);
        return reader.feed(ints[0], ints[1], ints[2], ints[3], ints[4]);
    }

    private static String pieces(Random random) {
        StringBuilder text = new StringBuilder(random.nextBoolean() ? "fun f(){" : "");
        while (text.length() < 20) {
            text.append(PIECES[random.nextInt(PIECES.length)]);
        }
        return text.toString();
    }

    // Behind the 512th call answers are free, but LANGUAGE.md lets no call throw even then: here
    // ever new names come.
    private static void farBeyond() {
        ProgramReader reader = new ProgramReader();
        for (int i = 0; i < 20000; i++) {
            feed(reader, "fun n" + i + "(p" + i + "){}");
            reader.read(i % 2, ProgramReader.NONE);
            reader.write(i % 2, 0);
            reader.again();
            reader.read(1 - i % 2, ProgramReader.NONE);
            reader.same();
            reader.spelt(i, 0);
        }
    }

    // The dearest run of 512 calls: growing texts, then the longest one read and written over and
    // over. The room is that of 7.3 million fields and elements, were they all ints.
    private static void room() {
        com.sun.management.ThreadMXBean bean =
            (com.sun.management.ThreadMXBean) ManagementFactory.getThreadMXBean();
        dearestRun();
        long before = bean.getThreadAllocatedBytes(Thread.currentThread().getId());
        dearestRun();
        long made = bean.getThreadAllocatedBytes(Thread.currentThread().getId()) - before;
        CHECKS.equal("room kept, made: " + made, made < 4 * 7300000L, true);
    }

    private static void dearestRun() {
        String longest = "fun f(){x=1" + Checks.repeat("+a*a", 1996) + ";}";
        ProgramReader reader = new ProgramReader();
        feed(reader, longest);
        reader.read(0, ProgramReader.NONE);
        feed(reader, longest);
        feed(reader, longest);
        reader.read(1, ProgramReader.NONE);
        for (int from = 0; from < longest.length(); from += 20) {
            int[] ints = Checks.fiveInts(longest, from);
            reader.feed(ints[0], ints[1], ints[2], ints[3], ints[4]);
        }
        reader.read(0, ProgramReader.NONE);
        for (int i = 0; i < 35; i++) {
            reader.write(i % 2, 0);
            reader.again();
            reader.read(1 - i % 2, ProgramReader.NONE);
        }
        CHECKS.equal("nodes of the longest", reader.nodes(1), 8 + 5 * 1996);
    }
}
