/** Promise 1: two trees of a TEXT without functions; nothing fed, written or named. */
public final class NewObjectTest {
    private static final Checks CHECKS = new Checks("a new object");

    public static void main(String[] args) {
        twoTrees();
        nothingFed();
        nothingWritten();
        nothingNamed();
        objectsApart();
        CHECKS.end();
    }

    private static void twoTrees() {
        CHECKS.sentence("Two trees, of a TEXT without functions");
        Sitting reader = new Sitting();
        for (int tree = 0; tree < 2; tree++) {
            CHECKS.equal("nodes", reader.nodes(tree), 1);
            CHECKS.equal("kind", reader.node(tree, 0, 0), 0);
            CHECKS.equal("place", reader.node(tree, 0, 1), -1);
            CHECKS.equal("value", reader.node(tree, 0, 2), 0);
            CHECKS.equal("size", reader.node(tree, 0, 3), 1);
            CHECKS.equal("parts", reader.node(tree, 0, 4), 0);
            CHECKS.equal("part", reader.part(tree, 0, 0), -1);
            CHECKS.equal("whole", reader.whole(tree, 0), -1);
            CHECKS.equal("no other node", reader.node(tree, 1, 0), -2);
        }
        CHECKS.equal("no tree before", reader.nodes(-1), 0);
        CHECKS.equal("no third tree", reader.nodes(2), 0);
        CHECKS.equal("same", reader.same(), true);
        CHECKS.equal("written as nothing", reader.write(0, 0), 0);
        CHECKS.equal("the other one too", reader.write(1, 0), 0);
    }

    private static void nothingFed() {
        CHECKS.sentence("nothing fed");
        Sitting reader = new Sitting();
        CHECKS.equal("one byte", reader.read(0, 1), -2);
        CHECKS.equal("no byte", reader.read(0, 0), 0);
        CHECKS.equal("all", reader.read(0, -1), 0);
        CHECKS.equal("the first 20", reader.feed(0, 0, 0, 0, 0), 20);
    }

    private static void nothingWritten() {
        CHECKS.sentence("nothing .. written");
        Sitting reader = new Sitting();
        CHECKS.equal("byte 0", reader.written(0), -1);
        CHECKS.equal("again", reader.again(), 0);
        CHECKS.equal("byte 0", reader.written(0), -1);
    }

    private static void nothingNamed() {
        CHECKS.sentence("nothing .. named");
        Sitting reader = new Sitting();
        CHECKS.equal("names", reader.names(), 0);
        CHECKS.equal("name 0", reader.spelt(0, 0), -1);
        Checks.readText(reader, 0, "fun x(){}");
        CHECKS.equal("the first one gets 0", reader.node(0, 2, 2), 0);
    }

    private static void objectsApart() {
        CHECKS.sentence("Two trees, of a TEXT without functions; nothing fed, written or named");
        Sitting reader = new Sitting();
        Checks.readText(reader, 0, "fun f(){}");
        reader.write(0, 0);
        reader.feed(0, 0, 0, 0, 0);
        Sitting other = new Sitting();
        CHECKS.equal("another one is new", Checks.stateText(other), "0@-1 and 0@-1 same true names  written ");
        CHECKS.equal("nothing fed", other.read(0, 1), -2);
        CHECKS.equal("first feed", other.feed(0, 0, 0, 0, 0), 20);
        CHECKS.equal("second feed of the first", reader.feed(0, 0, 0, 0, 0), 40);
    }
}
