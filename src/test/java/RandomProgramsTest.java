import java.util.ArrayList;
import java.util.LinkedHashMap;
import java.util.List;
import java.util.Map;

/** Promises 3 to 13 on programs made by chance: the due tree, and the fewest brackets. */
public final class RandomProgramsTest {
    private static final Checks CHECKS = new Checks("random programs");

    public static void main(String[] args) {
        for (int seed = 0; seed < 3000; seed++) {
            program(seed);
        }
        CHECKS.end();
    }

    private static void program(int seed) {
        ProgramMaker maker = new ProgramMaker(seed);
        ProgramMaker.Node due = maker.text(1 + maker.random.nextInt(3), maker.random.nextInt(9));
        int[] places = new int[maker.tokens.size()];
        String text = maker.layout(maker.tokens, places);
        if (text.length() > 8000) {
            return;
        }
        Sitting reader = new Sitting();
        CHECKS.equal("fault of " + text, Checks.readText(reader, 0, text), -1);
        Map<String, Integer> names = new LinkedHashMap<>();
        CHECKS.equal("tree of " + text, Checks.treeText(reader, 0, 0), treeText(due, places, names));
        CHECKS.equal("names of " + text, Checks.allNames(reader), String.join(" ", names.keySet()));
        parts(reader, due, text);
        written(reader, text);
    }

    private static String treeText(ProgramMaker.Node node, int[] places, Map<String, Integer> names) {
        StringBuilder text = new StringBuilder();
        text.append(node.kind).append('@').append(node.token < 0 ? -1 : places[node.token]);
        int value = value(node, names);
        text.append(value == 0 ? "" : "=" + value);
        for (ProgramMaker.Node part : node.parts) {
            text.append(part == node.parts.get(0) ? "(" : " ").append(treeText(part, places, names));
        }
        return text.append(node.parts.isEmpty() ? "" : ")").toString();
    }

    private static int value(ProgramMaker.Node node, Map<String, Integer> names) {
        if (node.kind == 13) {
            names.putIfAbsent(node.spelling, names.size());
            return names.get(node.spelling);
        }
        return node.kind == 12 ? Integer.parseInt(node.spelling) : 0;
    }

    private static void parts(Sitting reader, ProgramMaker.Node due, String text) {
        List<ProgramMaker.Node> all = new ArrayList<>();
        due.collect(all);
        CHECKS.equal("nodes of " + text, reader.nodes(0), all.size());
        for (int k = 0; k < all.size(); k++) {
            List<ProgramMaker.Node> inside = new ArrayList<>();
            all.get(k).collect(inside);
            CHECKS.equal("size of " + k + " of " + text, reader.node(0, k, 3), inside.size());
        }
    }

    // Read again it is the same tree; without one of its pairs of brackets, or one of its blanks,
    // it is not, or none at all.
    private static void written(Sitting reader, String text) {
        String written = Checks.writeText(reader, 0, 0);
        CHECKS.equal("again", reader.again(), written.length());
        CHECKS.equal("fault of " + written, reader.read(1, -1), -1);
        CHECKS.equal("same as " + text, reader.same() ? 1 : 0, 1);
        CHECKS.equal("itself", Checks.writeText(reader, 1, 0), written);
        if (written.length() > 300) {
            return;
        }
        for (int at = 0; at < written.length(); at++) {
            if (written.charAt(at) == ' ') {
                differs(written, without(written, at, at));
            } else if ("([".indexOf(written.charAt(at)) >= 0) {
                differs(written, without(written, at, closing(written, at)));
            }
        }
    }

    private static int closing(String text, int open) {
        int depth = 0;
        for (int at = open; at < text.length(); at++) {
            depth += "([".indexOf(text.charAt(at)) >= 0 ? 1 : ")]".indexOf(text.charAt(at)) >= 0 ? -1 : 0;
            if (depth == 0) {
                return at;
            }
        }
        return open;
    }

    private static String without(String text, int first, int second) {
        StringBuilder rest = new StringBuilder();
        for (int at = 0; at < text.length(); at++) {
            rest.append(at == first || at == second ? "" : text.substring(at, at + 1));
        }
        return rest.toString();
    }

    private static void differs(String written, String text) {
        Sitting reader = new Sitting();
        Checks.readText(reader, 0, written);
        boolean whole = Checks.readText(reader, 1, text) == ProgramReader.NONE;
        CHECKS.equal("the same as " + text, whole && reader.same() ? 1 : 0, 0);
    }
}
