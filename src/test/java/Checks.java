/** Counts the answers that are not the due ones, and the steps that all tests share. */
final class Checks {
    private static final int MOST_TOLD = 20;
    private static final int MOST_BYTES = 8000;
    private static final long MOST_SECONDS = 240;

    private final String title;
    private String sentence = "";
    private int wrong = 0;
    private int asked = 0;

    Checks(String title) {
        this.title = title;
        Thread watch = new Thread(this::endLate);
        watch.setDaemon(true);
        watch.start();
    }

    // A call that fails to end is a fault like any other, and must not hold up all tests.
    private void endLate() {
        try {
            Thread.sleep(MOST_SECONDS * 1000);
        } catch (InterruptedException nobodyDoesThis) {
            return;
        }
        System.out.println(title + sentence + ": no end in " + MOST_SECONDS + " seconds");
        Runtime.getRuntime().halt(1);
    }

    /** The words of the document that the checks from here on keep; told with each wrong answer. */
    void sentence(String words) {
        sentence = " [" + words + "]";
    }

    void equal(String what, long got, long due) {
        equal(what, Long.toString(got), Long.toString(due));
    }

    void equal(String what, boolean got, boolean due) {
        equal(what, Boolean.toString(got), Boolean.toString(due));
    }

    void equal(String what, String got, String due) {
        asked++;
        if (!got.equals(due)) {
            wrong++;
            tell(what, got, due);
        }
    }

    private void tell(String what, String got, String due) {
        if (wrong <= MOST_TOLD) {
            System.out.println(title + sentence + ": " + what
                + "\n  answered " + got + "\n  due is   " + due);
        }
    }

    void end() {
        System.out.println(title + ": " + asked + " answers, " + wrong + " not as due");
        if (wrong != 0) {
            System.exit(1);
        }
    }

    /** Feeds a text, characters 0 to 255, with blanks behind it up to a multiple of 20. */
    static int feedText(Sitting reader, String text) {
        int last = 0;
        for (int from = 0; from < text.length(); from += 20) {
            int[] ints = fiveInts(text, from);
            last = reader.feed(ints[0], ints[1], ints[2], ints[3], ints[4]);
        }
        return last;
    }

    static int[] fiveInts(String text, int from) {
        int[] ints = new int[5];
        for (int i = 0; i < 20; i++) {
            int b = from + i < text.length() ? text.charAt(from + i) : ' ';
            ints[i / 4] = ints[i / 4] << 8 | b;
        }
        return ints;
    }

    static int readText(Sitting reader, int tree, String text) {
        feedText(reader, text);
        return reader.read(tree, text.length());
    }

    /** The place of the fault of a text, read by a new object. */
    static int fault(String text) {
        return readText(new Sitting(), 0, text);
    }

    static String writtenText(Sitting reader) {
        StringBuilder text = new StringBuilder();
        for (int b = reader.written(0); b != -1 && text.length() <= MOST_BYTES; b = reader.written(text.length())) {
            text.append((char) b);
        }
        return text.toString();
    }

    static String writeText(Sitting reader, int tree, int k) {
        int count = reader.write(tree, k);
        String text = writtenText(reader);
        return text.length() == count ? text : "write answered " + count + " for " + text;
    }

    static String nameText(Sitting reader, int name) {
        StringBuilder text = new StringBuilder();
        for (int b = reader.spelt(name, 0); b != -1 && text.length() <= MOST_BYTES; b = reader.spelt(name, text.length())) {
            text.append((char) b);
        }
        return text.toString();
    }

    static String allNames(Sitting reader) {
        StringBuilder text = new StringBuilder();
        int names = reader.names();
        for (int name = 0; name < names; name++) {
            text.append(name == 0 ? "" : " ").append(nameText(reader, name));
        }
        return text.toString();
    }

    /** All that can be asked about an object, so that two states of it can be compared. */
    static String stateText(Sitting reader) {
        return treeText(reader, 0, 0) + " and " + treeText(reader, 1, 0) + " same " + reader.same()
            + " names " + allNames(reader) + " written " + writtenText(reader);
    }

    /**
     * A tree as kind@place, =value where it is not 0, and the parts in brackets; what does not fit
     * together in the answers of node, part and whole stands in square ones.
     */
    static String treeText(Sitting reader, int tree, int k) {
        StringBuilder text = new StringBuilder();
        text.append(reader.node(tree, k, 0)).append('@').append(reader.node(tree, k, 1));
        int value = reader.node(tree, k, 2);
        text.append(value == 0 ? "" : "=" + value);
        int parts = reader.node(tree, k, 4);
        int next = k + 1;
        for (int i = 0; i < parts; i++) {
            int part = reader.part(tree, k, i);
            text.append(i == 0 ? "(" : " ").append(part == next ? "" : "[part " + part + "]");
            text.append(treeText(reader, tree, next));
            text.append(reader.whole(tree, next) == k ? "" : "[whole of " + next + "]");
            next += Math.max(1, reader.node(tree, next, 3));
        }
        text.append(parts == 0 ? "" : ")");
        text.append(reader.node(tree, k, 3) == next - k ? "" : "[size of " + k + "]");
        text.append(reader.part(tree, k, -1) == -1 ? "" : "[part -1 of " + k + "]");
        text.append(reader.part(tree, k, parts) == -1 ? "" : "[part " + parts + " of " + k + "]");
        return text.toString();
    }

    static String repeat(String text, int times) {
        return text.repeat(times);
    }
}
