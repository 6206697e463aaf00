/** Promises 2 and 12: feed with its order of bytes and its limit, and again. */
public final class FeedTest {
    private static final Checks CHECKS = new Checks("feed and again");

    public static void main(String[] args) {
        bytesInOrder();
        limit();
        limitBehindAgain();
        again();
        CHECKS.end();
    }

    private static void bytesInOrder() {
        ProgramReader reader = new ProgramReader();
        CHECKS.equal("first", reader.feed(0x66756e20, 0x6d61696e, 0x28297b7d, 0x20202020, 0x20202020), 20);
        CHECKS.equal("second", reader.feed(0x66756e20, 0x663b2020, 0, -1, Integer.MIN_VALUE), 40);
        CHECKS.equal("fault at the second ;", reader.read(0, 40), 25);
        CHECKS.equal("written", Checks.writeText(reader, 0, 0), "fun main(){}");
    }

    private static void limit() {
        ProgramReader reader = new ProgramReader();
        CHECKS.equal("fun a(){}", Checks.feedText(reader, "fun a(){}"), 20);
        for (int i = 2; i <= 399; i++) {
            CHECKS.equal("feed " + i, reader.feed(0x20202020, 0x20202020, 0x20202020, 0x20202020, 0x20202020), 20 * i);
        }
        CHECKS.equal("the last 20", Checks.feedText(reader, "      fun bcdef(z){}"), 8000);
        for (int i = 0; i < 3; i++) {
            CHECKS.equal("one more", reader.feed(0, 0, 0, 0, 0), -1);
        }
        CHECKS.equal("beyond", reader.read(0, 8001), -2);
        CHECKS.equal("all", reader.read(0, 8000), -1);
        CHECKS.equal("tree", Checks.treeText(reader, 0, 0),
            "0@-1(1@0(13@4 2@7) 1@7986(13@7990=1 13@7996=2 2@7998))");
        CHECKS.equal("from 0 again", reader.feed(0, 0, 0, 0, 0), 20);
    }

    // The text is as short as it can be, so that again brings exactly its length.
    private static void limitBehindAgain() {
        for (int length = 7979; length <= 8000; length++) {
            ProgramReader reader = new ProgramReader();
            String text = shortText(length);
            CHECKS.equal("read " + length, Checks.readText(reader, 0, text), -1);
            CHECKS.equal("write " + length, reader.write(0, 0), length);
            CHECKS.equal("last byte", reader.written(length - 1), '}');
            CHECKS.equal("behind it", reader.written(length), -1);
            CHECKS.equal("again " + length, reader.again(), length);
            int more = reader.feed(0x20202020, 0x20202020, 0x20202020, 0x20202020, 0x20202020);
            CHECKS.equal("feed behind " + length, more, length <= 7980 ? length + 20 : -1);
            CHECKS.equal("read again", reader.read(1, -1), -1);
            CHECKS.equal("same", reader.same() ? 1 : 0, 1);
        }
    }

    private static String shortText(int length) {
        StringBuilder text = new StringBuilder(length % 2 == 0 ? "fun f(){x=ab" : "fun f(){x=a");
        while (text.length() < length - 2) {
            text.append("+a");
        }
        return text.append(";}").toString();
    }

    private static void again() {
        ProgramReader reader = new ProgramReader();
        Checks.feedText(reader, "fun f(){x=1;}");
        CHECKS.equal("nothing written yet", reader.again(), 0);
        CHECKS.equal("so nothing is fed", reader.read(0, 1), -2);
        CHECKS.equal("read", Checks.readText(reader, 0, " fun  f ( ) { x = (1) ; } "), -1);
        CHECKS.equal("write", reader.write(0, 0), 13);
        Checks.feedText(reader, "what was fed is gone, all of it");
        CHECKS.equal("again", reader.again(), 13);
        CHECKS.equal("once more", reader.again(), 13);
        CHECKS.equal("written stays", Checks.writtenText(reader), "fun f(){x=1;}");
        CHECKS.equal("feed behind it", Checks.feedText(reader, " fun g(){}"), 33);
        CHECKS.equal("read both", reader.read(1, -1), -1);
        CHECKS.equal("both", Checks.writeText(reader, 1, 0), "fun f(){x=1;}fun g(){}");
        CHECKS.equal("refused", reader.write(1, 99), -1);
        CHECKS.equal("what was written last", reader.again(), 22);
        CHECKS.equal("a part", reader.write(1, 2), 1);
        CHECKS.equal("again a part", reader.again(), 1);
        CHECKS.equal("its bytes and fed ones join", Checks.feedText(reader, "un h(){}"), 21);
        CHECKS.equal("read it", reader.read(0, 9), -1);
        CHECKS.equal("joined", Checks.writeText(reader, 0, 0), "fun h(){}");
    }
}
