/** Promise 3: which bytes are read into which tree, what is gone then, and what a refused read leaves. */
public final class ReadTest {
    private static final Checks CHECKS = new Checks("read");

    public static void main(String[] args) {
        firstBytes();
        allBytes();
        inPlaceOfWhatItWas();
        bytesAreGone();
        noSuchTree();
        noSuchNumberOfBytes();
        refusedChangesNothing();
        CHECKS.end();
    }

    private static void firstBytes() {
        CHECKS.sentence("The first n bytes .. are read into a tree");
        String text = "fun g(a){}fun h(){} ";
        int[] due = {0, 0, 0, 3, 4, 5, 6, 7, 8, 9, -1, 10, 10, 13, 14, 15, 16, 17, 18, -1, -1};
        for (int n = 0; n <= 20; n++) {
            for (int tree = 0; tree < 2; tree++) {
                Sitting reader = new Sitting();
                Checks.feedText(reader, text);
                CHECKS.equal("fault of the first " + n, reader.read(tree, n), due[n]);
                String written = n < 10 ? "" : n < 19 ? "fun g(a){}" : "fun g(a){}fun h(){}";
                CHECKS.equal("tree of the first " + n, Checks.writeText(reader, tree, 0), written);
                CHECKS.equal("not the other tree", reader.nodes(1 - tree), 1);
            }
        }
    }

    private static void allBytes() {
        CHECKS.sentence("(all, when n is NONE)");
        Sitting reader = new Sitting();
        CHECKS.equal("all of none", reader.read(0, ProgramReader.NONE), 0);
        Checks.feedText(reader, "fun f(){}          $");
        CHECKS.equal("all of 20", reader.read(0, ProgramReader.NONE), 19);
        Checks.feedText(reader, "fun f(){}          $");
        CHECKS.equal("19 of 20", reader.read(0, 19), -1);
        Checks.feedText(reader, "fun f(){}                              $");
        CHECKS.equal("all of 40", reader.read(1, ProgramReader.NONE), 39);
        Checks.feedText(reader, "fun f(){}" + Checks.repeat(" ", 7990) + "$");
        CHECKS.equal("all of 8000", reader.read(1, ProgramReader.NONE), 7999);
    }

    private static void inPlaceOfWhatItWas() {
        CHECKS.sentence("into a tree, in place of what it was");
        Sitting reader = new Sitting();
        Checks.readText(reader, 0, "fun f(){x=1+2+3;if(1<2){x=a*b*c;}}");
        Checks.readText(reader, 1, "fun g(x){return x;}");
        Checks.readText(reader, 0, "fun f(){}");
        CHECKS.equal("a shorter one", Checks.treeText(reader, 0, 0), "0@-1(1@0(13@4 2@7))");
        CHECKS.equal("nodes", reader.nodes(0), 4);
        CHECKS.equal("not the other one", Checks.writeText(reader, 1, 0), "fun g(x){return x;}");
        Checks.readText(reader, 0, "fun f(){x=1;}fun h(){}");
        CHECKS.equal("a longer one", Checks.writeText(reader, 0, 0), "fun f(){x=1;}fun h(){}");
        Checks.readText(reader, 0, "fun i(){}fun j(){;}");
        CHECKS.equal("one with a fault", Checks.writeText(reader, 0, 0), "fun i(){}");
        Checks.readText(reader, 0, "fun");
        CHECKS.equal("one with no function", Checks.treeText(reader, 0, 0), "0@-1");
        Checks.readText(reader, 1, "");
        CHECKS.equal("one of no bytes", Checks.treeText(reader, 1, 0), "0@-1");
    }

    private static void bytesAreGone() {
        CHECKS.sentence("all bytes are gone");
        int[] counts = {0, 1, 9, 19, 20, -1};
        for (int n : counts) {
            Sitting reader = new Sitting();
            Checks.feedText(reader, "fun f(){}  fun g(){}");
            reader.read(0, n);
            CHECKS.equal("behind " + n + " none is left", reader.read(1, 1), -2);
            CHECKS.equal("none to read", reader.read(1, -1), 0);
            CHECKS.equal("feeding begins at 0", Checks.feedText(reader, "fun h(){}"), 20);
            CHECKS.equal("only what was fed since", reader.read(1, -1), -1);
            CHECKS.equal("tree", Checks.writeText(reader, 1, 0), "fun h(){}");
        }
        Sitting reader = new Sitting();
        Checks.feedText(reader, "fun f(){x=;}");
        CHECKS.equal("a fault", reader.read(0, -1), 10);
        CHECKS.equal("none is left behind a fault", reader.read(0, 1), -2);
        Checks.feedText(reader, Checks.repeat(" ", 8000));
        CHECKS.equal("full", reader.feed(0, 0, 0, 0, 0), -1);
        CHECKS.equal("read none of 8000", reader.read(0, 0), 0);
        CHECKS.equal("room again", reader.feed(0, 0, 0, 0, 0), 20);
    }

    private static void noSuchTree() {
        CHECKS.sentence("-2 .. when there is no such tree (0 and 1)");
        int[] none = {-1, -2, 2, 3, 256, -256, Integer.MAX_VALUE, Integer.MIN_VALUE};
        for (int tree : none) {
            Sitting reader = new Sitting();
            CHECKS.equal("no bytes, tree " + tree, reader.read(tree, 0), -2);
            CHECKS.equal("no bytes, all, tree " + tree, reader.read(tree, -1), -2);
            Checks.feedText(reader, "fun f(){}");
            CHECKS.equal("some, tree " + tree, reader.read(tree, 9), -2);
            CHECKS.equal("all, tree " + tree, reader.read(tree, -1), -2);
            CHECKS.equal("too many, tree " + tree, reader.read(tree, 21), -2);
        }
        for (int tree = 0; tree < 2; tree++) {
            Sitting reader = new Sitting();
            Checks.feedText(reader, "fun f(){}");
            CHECKS.equal("tree " + tree, reader.read(tree, 9), -1);
        }
    }

    private static void noSuchNumberOfBytes() {
        CHECKS.sentence("-2 .. when .. n is neither NONE nor 0 .. the number of bytes");
        int[] wrong = {-2, -3, -20, 21, 22, 40, 8000, 8001, Integer.MAX_VALUE, Integer.MIN_VALUE};
        for (int n : wrong) {
            for (int tree = 0; tree < 2; tree++) {
                Sitting reader = new Sitting();
                CHECKS.equal("nothing fed, n " + n, reader.read(tree, n), -2);
                CHECKS.equal("nothing fed, n 1", reader.read(tree, 1), -2);
                Checks.feedText(reader, "fun f(){}");
                CHECKS.equal("20 fed, n " + n, reader.read(tree, n), -2);
                CHECKS.equal("20 fed, n 20", reader.read(tree, 20), -1);
            }
        }
        Sitting reader = new Sitting();
        Checks.feedText(reader, "fun f(){}" + Checks.repeat(" ", 7991));
        CHECKS.equal("8000 fed, n 8001", reader.read(0, 8001), -2);
        CHECKS.equal("8000 fed, n 8000", reader.read(0, 8000), -1);
        CHECKS.equal("write", reader.write(0, 0), 9);
        CHECKS.equal("again", reader.again(), 9);
        CHECKS.equal("9 there, n 10", reader.read(0, 10), -2);
        CHECKS.equal("9 there, n 9", reader.read(0, 9), -1);
    }

    private static void refusedChangesNothing() {
        CHECKS.sentence("-2, changing nothing");
        int[][] refused = {{-1, 5}, {2, 5}, {Integer.MAX_VALUE, 5}, {Integer.MIN_VALUE, -1}, {2, -1}, {-2, 0},
            {0, -2}, {0, 41}, {1, 41}, {1, Integer.MAX_VALUE}, {1, Integer.MIN_VALUE}, {3, 99}, {2, 0}};
        for (int[] pair : refused) {
            Sitting reader = new Sitting();
            Checks.readText(reader, 0, "fun f(a){x=1;}");
            Checks.readText(reader, 1, "fun f(){g(2);}fun");
            reader.write(1, 4);
            Checks.feedText(reader, "fun new1(new2){new3=new4;}fun h(){}");
            String before = Checks.stateText(reader);
            CHECKS.equal("read(" + pair[0] + ", " + pair[1] + ")", reader.read(pair[0], pair[1]), -2);
            CHECKS.equal("state", Checks.stateText(reader), before);
            CHECKS.equal("bytes", reader.feed(0x20202020, 0x20202020, 0x20202020, 0x20202020, 0x20202020), 60);
            CHECKS.equal("they are read", reader.read(0, 60), -1);
            CHECKS.equal("as they were", Checks.writeText(reader, 0, 0), "fun new1(new2){new3=new4;}fun h(){}");
        }
    }
}
