import java.util.List;

/**
 * Promise 3 on programs spoilt by chance: the place of the fault is that which the grammar itself
 * gives.
 */
public final class RandomFaultsTest {
    private static final Checks CHECKS = new Checks("random faults");
    private static final String[] OTHERS = ("fun var if else while assert return any ( ) { } [ ] , ; = + - * / % "
        + "< <= > >= == != && || ! q 7 x 007 1a & | $ . 2147483648").split(" ");

    public static void main(String[] args) {
        CHECKS.sentence("a token with which no text, of any depth, goes on");
        for (int seed = 0; seed < 3000; seed++) {
            spoilt(seed);
        }
        CHECKS.end();
    }

    private static void spoilt(int seed) {
        ProgramMaker maker = new ProgramMaker(seed);
        maker.text(1 + maker.random.nextInt(3), maker.random.nextInt(7));
        List<String> tokens = maker.tokens;
        int at = maker.random.nextInt(tokens.size());
        String other = OTHERS[maker.random.nextInt(OTHERS.length)];
        switch (maker.random.nextInt(4)) {
            case 0: tokens.set(at, other); break;
            case 1: tokens.add(at, other); break;
            case 2: tokens.remove(at); break;
            default: tokens.subList(at, tokens.size()).clear();
        }
        // One blank between all tokens, so that no two of them join into another.
        String text = String.join(" ", tokens);
        if (text.length() <= 8000) {
            int got = Checks.readText(new Sitting(), seed % 2, text);
            CHECKS.equal("fault of " + text, got, Grammar.fault(tokens, text.length()));
        }
    }
}
