/** Promise 1: two trees of a TEXT without functions; nothing fed, written or named. */
public final class NewObjectTest {
    public static void main(String[] args) {
        Checks checks = new Checks("a new object");
        ProgramReader reader = new ProgramReader();
        for (int tree = 0; tree < 2; tree++) {
            checks.equal("nodes", reader.nodes(tree), 1);
            checks.equal("kind", reader.node(tree, 0, 0), 0);
            checks.equal("place", reader.node(tree, 0, 1), -1);
            checks.equal("value", reader.node(tree, 0, 2), 0);
            checks.equal("size", reader.node(tree, 0, 3), 1);
            checks.equal("parts", reader.node(tree, 0, 4), 0);
            checks.equal("part", reader.part(tree, 0, 0), -1);
            checks.equal("whole", reader.whole(tree, 0), -1);
        }
        checks.equal("same", reader.same() ? 1 : 0, 1);
        checks.equal("names", reader.names(), 0);
        checks.equal("spelt", reader.spelt(0, 0), -1);
        checks.equal("written", reader.written(0), -1);
        checks.equal("again", reader.again(), 0);
        checks.equal("read beyond", reader.read(0, 1), -2);
        checks.equal("read all", reader.read(0, -1), 0);
        ProgramReader other = new ProgramReader();
        checks.equal("first feed", other.feed(0, 0, 0, 0, 0), 20);
        checks.equal("objects apart", reader.feed(0, 0, 0, 0, 0), 20);
        checks.end();
    }
}
