/** The examples of README.md: each call answers what is said there. */
public final class ReadmeTest {
    private static final Checks CHECKS = new Checks("README.md");

    public static void main(String[] args) {
        readAndWrite();
        fault();
        CHECKS.end();
    }

    private static void readAndWrite() {
        ProgramReader reader = new ProgramReader();
        CHECKS.equal("feed", reader.feed(0x66756e20, 0x6628297b, 0x783d2831, 0x293b7d20, 0x20202020), 20);
        CHECKS.equal("read", reader.read(0, 15), ProgramReader.NONE);
        CHECKS.equal("nodes", reader.nodes(0), 7);
        CHECKS.equal("kind", reader.node(0, 4, 0), 5);
        int name = reader.node(0, 2, 2);
        CHECKS.equal("name", name, 0);
        CHECKS.equal("letter", reader.spelt(name, 0), 'f');
        CHECKS.equal("bytes", reader.write(0, 0), 13);
        String due = "fun f(){x=1;}";
        for (int i = 0; i < due.length(); i++) {
            CHECKS.equal("byte " + i, reader.written(i), due.charAt(i));
        }
        CHECKS.equal("again", reader.again(), 13);
        CHECKS.equal("read again", reader.read(1, ProgramReader.NONE), ProgramReader.NONE);
        CHECKS.equal("same", reader.same(), true);
        CHECKS.equal("places differ", reader.node(0, 6, 1) - reader.node(1, 6, 1), 1);
    }

    private static void fault() {
        ProgramReader reader = new ProgramReader();
        CHECKS.equal("feed", reader.feed(0x66756e20, 0x6628297b, 0x7d66756e, 0x20672829, 0x7b787d20), 20);
        CHECKS.equal("fault", reader.read(0, 19), 18);
        CHECKS.equal("nodes", reader.nodes(0), 4);
        CHECKS.equal("names", reader.names(), 1);
    }
}
