/** Promises 2 and 12: feed with its order of bytes and its limit, and again. */
public final class FeedTest {
    private static final Checks CHECKS = new Checks("feed and again");

    public static void main(String[] args) {
        highestFirst();
        everyByte();
        howMany();
        limit();
        refusedChangesNothing();
        limitBehindAgain();
        again();
        againWithNothing();
        againBehindRefusedWrite();
        againTakesThePlace();
        CHECKS.end();
    }

    private static void highestFirst() {
        CHECKS.sentence("Twenty bytes more: of each int the highest one first");
        Sitting reader = new Sitting();
        CHECKS.equal("first", reader.feed(0x66756e20, 0x61626364, 0x65666768, 0x696a6b28, 0x297b207d), 20);
        CHECKS.equal("read", reader.read(0, 20), -1);
        CHECKS.equal("in order", Checks.writeText(reader, 0, 0), "fun abcdefghijk(){}");
        CHECKS.equal("first", reader.feed(0x66756e20, 0x6d61696e, 0x28297b7d, 0x20202020, 0x20202020), 20);
        CHECKS.equal("second", reader.feed(0x66756e20, 0x663b2020, 0, -1, Integer.MIN_VALUE), 40);
        CHECKS.equal("fault at the second ;", reader.read(0, 40), 25);
        CHECKS.equal("written", Checks.writeText(reader, 0, 0), "fun main(){}");
    }

    // The one byte that is no blank is that of the fault, whichever of the twenty, and whatever it is.
    private static void everyByte() {
        CHECKS.sentence("Twenty bytes more: of each int the highest one first");
        int[] bytes = {0, 1, 36, 127, 128, 200, 255};
        for (int b : bytes) {
            for (int place = 0; place < 40; place++) {
                Sitting reader = new Sitting();
                Checks.feedText(reader, Checks.repeat(" ", place) + (char) b + Checks.repeat(" ", 39 - place));
                CHECKS.equal("byte " + b + " at " + place, reader.read(0, -1), place);
            }
        }
        int[] ints = {-1, Integer.MIN_VALUE, Integer.MAX_VALUE};
        for (int four : ints) {
            Sitting reader = new Sitting();
            CHECKS.equal("any int", reader.feed(0x66756e20, 0x6628297b, 0x7d2f2f20, four, four), 20);
            CHECKS.equal("in a remark", reader.read(0, -1), -1);
        }
    }

    private static void howMany() {
        CHECKS.sentence("How many there are");
        Sitting reader = new Sitting();
        for (int i = 1; i <= 5; i++) {
            CHECKS.equal("feed " + i, reader.feed(0, 0, 0, 0, 0), 20 * i);
        }
        reader.read(0, 3);
        CHECKS.equal("behind a read", reader.feed(0, 0, 0, 0, 0), 20);
    }

    private static void limit() {
        CHECKS.sentence("NONE .. when there would be more than 8000");
        Sitting reader = new Sitting();
        CHECKS.equal("fun a(){}", Checks.feedText(reader, "fun a(){}"), 20);
        for (int i = 2; i <= 399; i++) {
            CHECKS.equal("feed " + i, blanks(reader), 20 * i);
        }
        CHECKS.equal("the last 20", Checks.feedText(reader, "      fun bcdef(z){}"), 8000);
        for (int i = 0; i < 3; i++) {
            CHECKS.equal("one more", reader.feed(0, 0, 0, 0, 0), -1);
        }
        CHECKS.equal("beyond", reader.read(0, 8001), -2);
        CHECKS.equal("all", reader.read(0, 8000), -1);
        CHECKS.equal("tree", Checks.treeText(reader, 0, 0),
            "0@-1(1@0(13@4 2@7) 1@7986(13@7990=1 13@7996=2 2@7998))");
        CHECKS.equal("from 0 again", reader.feed(0, 0, 0, 0, 0), 20);
    }

    private static int blanks(Sitting reader) {
        return reader.feed(0x20202020, 0x20202020, 0x20202020, 0x20202020, 0x20202020);
    }

    private static void refusedChangesNothing() {
        CHECKS.sentence("NONE, changing nothing");
        Sitting reader = new Sitting();
        Checks.readText(reader, 0, "fun f(a){x=1;}");
        reader.write(0, 1);
        String text = "fun f(){x=" + Checks.repeat("a+", 3993) + "a;}";
        Checks.feedText(reader, text);
        String before = Checks.stateText(reader);
        CHECKS.equal("refused", reader.feed(0x24242424, 0x24242424, 0x24242424, 0x24242424, 0x24242424), -1);
        CHECKS.equal("state", Checks.stateText(reader), before);
        CHECKS.equal("no more bytes", reader.read(1, 8001), -2);
        CHECKS.equal("no other bytes", reader.read(1, 8000), -1);
        CHECKS.equal("all of them", reader.nodes(1), 8 + 2 * 3993);
        CHECKS.equal("write", reader.write(1, 0), text.length());
        CHECKS.equal("again", reader.again(), text.length());
        CHECKS.equal("refused", reader.feed(0x24242424, 0x24242424, 0x24242424, 0x24242424, 0x24242424), -1);
        CHECKS.equal("no more bytes", reader.read(0, text.length() + 1), -2);
        CHECKS.equal("no other bytes", reader.read(0, text.length()), -1);
        CHECKS.equal("same", reader.same(), true);
    }

    // The text is as short as it can be, so that again brings exactly its length.
    private static void limitBehindAgain() {
        CHECKS.sentence("NONE .. when there would be more than 8000");
        for (int length = 7979; length <= 8000; length++) {
            Sitting reader = new Sitting();
            String text = shortText(length);
            CHECKS.equal("read " + length, Checks.readText(reader, 0, text), -1);
            CHECKS.equal("write " + length, reader.write(0, 0), length);
            CHECKS.equal("last byte", reader.written(length - 1), '}');
            CHECKS.equal("behind it", reader.written(length), -1);
            CHECKS.equal("again " + length, reader.again(), length);
            int more = blanks(reader);
            CHECKS.equal("feed behind " + length, more, length <= 7980 ? length + 20 : -1);
            CHECKS.equal("read again", reader.read(1, -1), -1);
            CHECKS.equal("same", reader.same(), true);
        }
    }

    private static String shortText(int length) {
        StringBuilder text = new StringBuilder(length % 2 == 0 ? "fun f(){x=ab" : "fun f(){x=a");
        while (text.length() < length - 2) {
            text.append("+a");
        }
        return text.append(";}").toString();
    }

    private static void again() {
        CHECKS.sentence("What was written last .. takes the place of all bytes that were fed: how many there are");
        Sitting reader = new Sitting();
        CHECKS.equal("read", Checks.readText(reader, 0, " fun  f ( ) { x = (1) ; } "), -1);
        CHECKS.equal("write", reader.write(0, 0), 13);
        CHECKS.equal("again, nothing fed", reader.again(), 13);
        CHECKS.equal("once more", reader.again(), 13);
        CHECKS.equal("written stays", Checks.writtenText(reader), "fun f(){x=1;}");
        CHECKS.equal("feed behind it", Checks.feedText(reader, " fun g(){}"), 33);
        CHECKS.equal("read both", reader.read(1, -1), -1);
        CHECKS.equal("both", Checks.writeText(reader, 1, 0), "fun f(){x=1;}fun g(){}");
        CHECKS.equal("what was written last", reader.again(), 22);
        CHECKS.equal("a part", reader.write(1, 2), 1);
        CHECKS.equal("still what was written before", reader.read(0, 22), -1);
        CHECKS.equal("again a part", reader.again(), 1);
        CHECKS.equal("its bytes and fed ones join", Checks.feedText(reader, "un h(){}"), 21);
        CHECKS.equal("read it", reader.read(0, 9), -1);
        CHECKS.equal("joined", Checks.writeText(reader, 0, 0), "fun h(){}");
    }

    private static void againWithNothing() {
        CHECKS.sentence("(nothing, if none was)");
        Sitting reader = new Sitting();
        CHECKS.equal("nothing fed, nothing written", reader.again(), 0);
        Checks.feedText(reader, "fun f(){x=1;}");
        CHECKS.equal("nothing written yet", reader.again(), 0);
        CHECKS.equal("so nothing is fed", reader.read(0, 1), -2);
        CHECKS.equal("nor read", reader.read(0, -1), 0);
        CHECKS.equal("feeding begins at 0", Checks.feedText(reader, "fun f(){}"), 20);
        reader.read(0, -1);
        CHECKS.equal("written: a TEXT alone", reader.write(1, 0), 0);
        Checks.feedText(reader, "fun f(){}");
        CHECKS.equal("written, but of no bytes", reader.again(), 0);
        CHECKS.equal("nothing is fed", reader.read(1, 1), -2);
    }

    private static void againBehindRefusedWrite() {
        CHECKS.sentence("What was written last");
        Sitting reader = new Sitting();
        Checks.readText(reader, 0, "fun f(){x=1;}");
        CHECKS.equal("refused", reader.write(0, 99), -1);
        CHECKS.equal("nothing yet", reader.again(), 0);
        CHECKS.equal("write", reader.write(0, 4), 4);
        CHECKS.equal("refused", reader.write(0, -1), -1);
        CHECKS.equal("refused", reader.write(2, 0), -1);
        CHECKS.equal("what was written before", reader.again(), 4);
    }

    private static void againTakesThePlace() {
        CHECKS.sentence("takes the place of all bytes that were fed");
        Sitting reader = new Sitting();
        Checks.readText(reader, 0, "fun f(){x=1;}");
        reader.write(0, 0);
        Checks.feedText(reader, "what was fed is gone, all of it, for it is longer");
        CHECKS.equal("shorter than what was fed", reader.again(), 13);
        CHECKS.equal("no more than that", reader.read(1, 14), -2);
        CHECKS.equal("read", reader.read(1, 13), -1);
        CHECKS.equal("same", reader.same(), true);
        String longer = "fun f(){x=1+2+3+4+5+6;}";
        Checks.readText(reader, 0, longer);
        reader.write(0, 0);
        Checks.feedText(reader, "$");
        CHECKS.equal("longer than what was fed", reader.again(), longer.length());
        CHECKS.equal("read", reader.read(1, -1), -1);
        CHECKS.equal("same", reader.same(), true);
        Checks.feedText(reader, Checks.repeat("$", 8000));
        CHECKS.equal("in place of 8000", reader.again(), longer.length());
        CHECKS.equal("room again", blanks(reader), longer.length() + 20);
        CHECKS.equal("trees stay", reader.same(), true);
        CHECKS.equal("names stay", reader.names(), 2);
    }
}
