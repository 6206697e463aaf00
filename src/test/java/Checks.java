/** Counts the answers that are not the due ones, and the steps that all tests share. */
final class Checks {
    private static final int MOST_TOLD = 20;

    private final String title;
    private int wrong = 0;
    private int asked = 0;

    Checks(String title) {
        this.title = title;
    }

    void equal(String what, long got, long due) {
        equal(what, Long.toString(got), Long.toString(due));
    }

    void equal(String what, String got, String due) {
        asked++;
        if (!got.equals(due)) {
            wrong++;
            tell(what, got, due);
        }
    }

    private void tell(String what, String got, String due) {
        if (wrong <= MOST_TOLD) {
            System.out.println(title + ": " + what + "\n  answered " + got + "\n  due is   " + due);
        }
    }

    void end() {
        System.out.println(title + ": " + asked + " answers, " + wrong + " not as due");
        if (wrong != 0) {
            System.exit(1);
        }
    }

    /** Feeds a text, characters 0 to 255, with blanks behind it up to a multiple of 20. */
    static int feedText(ProgramReader reader, String text) {
        int last = 0;
        for (int from = 0; from < text.length(); from += 20) {
            int[] ints = new int[5];
            for (int i = 0; i < 20; i++) {
                int b = from + i < text.length() ? text.charAt(from + i) : ' ';
                ints[i / 4] = ints[i / 4] << 8 | b;
            }
            last = reader.feed(ints[0], ints[1], ints[2], ints[3], ints[4]);
        }
        return last;
    }

    static int readText(ProgramReader reader, int tree, String text) {
        feedText(reader, text);
        return reader.read(tree, text.length());
    }

    static String writtenText(ProgramReader reader) {
        StringBuilder text = new StringBuilder();
        for (int i = 0; reader.written(i) != ProgramReader.NONE; i++) {
            text.append((char) reader.written(i));
        }
        return text.toString();
    }

    static String writeText(ProgramReader reader, int tree, int k) {
        int count = reader.write(tree, k);
        String text = writtenText(reader);
        return text.length() == count ? text : "write answered " + count + " for " + text;
    }

    static String nameText(ProgramReader reader, int name) {
        StringBuilder text = new StringBuilder();
        for (int i = 0; reader.spelt(name, i) != ProgramReader.NONE; i++) {
            text.append((char) reader.spelt(name, i));
        }
        return text.toString();
    }

    static String allNames(ProgramReader reader) {
        StringBuilder text = new StringBuilder();
        for (int name = 0; name < reader.names(); name++) {
            text.append(name == 0 ? "" : " ").append(nameText(reader, name));
        }
        return text.toString();
    }

    /** A tree as kind@place, =value where it is not 0, and the parts in brackets. */
    static String treeText(ProgramReader reader, int tree, int k) {
        StringBuilder text = new StringBuilder();
        text.append(reader.node(tree, k, 0)).append('@').append(reader.node(tree, k, 1));
        if (reader.node(tree, k, 2) != 0) {
            text.append('=').append(reader.node(tree, k, 2));
        }
        int parts = reader.node(tree, k, 4);
        for (int i = 0; i < parts; i++) {
            int part = reader.part(tree, k, i);
            text.append(i == 0 ? "(" : " ").append(treeText(reader, tree, part));
            if (reader.whole(tree, part) != k) {
                text.append("[whole ").append(reader.whole(tree, part)).append(']');
            }
        }
        return text.append(parts == 0 ? "" : ")").toString();
    }

    static String repeat(String text, int times) {
        return text.repeat(times);
    }
}
