/** Promises 8 and 9: names numbered as they are read first, in all texts, and their bytes. */
public final class NamesTest {
    private static final Checks CHECKS = new Checks("names");

    public static void main(String[] args) {
        inOrder();
        spelt();
        many();
        CHECKS.end();
    }

    private static void inOrder() {
        ProgramReader reader = new ProgramReader();
        Checks.readText(reader, 0, "fun main(b,a){a=f(b,c[d]);e[g]=h;var main;i();// z\n}");
        CHECKS.equal("names", Checks.allNames(reader), "main b a f c d e g h i");
        CHECKS.equal("how many", reader.names(), 10);
        Checks.readText(reader, 1, "fun a(j,main){if(k<i&&l[m]>f){}while(n!=1){}assert(o==a);return p;}");
        CHECKS.equal("in all texts", Checks.allNames(reader), "main b a f c d e g h i j k l m n o p");
        CHECKS.equal("an old number", reader.node(1, 2, 2), 2);
        Checks.readText(reader, 0, "fun A(a,aa,Aa,a_,_,a0){}");
        CHECKS.equal("all differ", Checks.allNames(reader),
            "main b a f c d e g h i j k l m n o p A aa Aa a_ _ a0");
        Checks.readText(reader, 0, "");
        Checks.readText(reader, 1, "fun q(r){s=t+;}");
        CHECKS.equal("a fault brings none", reader.names(), 23);
        Checks.readText(reader, 1, "fun t(){}fun q(r){s=t+;}fun u(){}");
        CHECKS.equal("but for those before", Checks.nameText(reader, 23), "t");
        CHECKS.equal("and no more", reader.names(), 24);
        reader.write(0, 0);
        reader.again();
        CHECKS.equal("writing brings none", reader.names(), 24);
    }

    private static void spelt() {
        ProgramReader reader = new ProgramReader();
        String longest = "_Zz09" + Checks.repeat("q", 25);
        Checks.readText(reader, 0, "fun ab(" + longest + "){}");
        CHECKS.equal("a", reader.spelt(0, 0), 'a');
        CHECKS.equal("b", reader.spelt(0, 1), 'b');
        CHECKS.equal("behind", reader.spelt(0, 2), -1);
        CHECKS.equal("longest", Checks.nameText(reader, 1), longest);
        CHECKS.equal("behind the longest", reader.spelt(1, 30), -1);
        int[] none = {-1, 2, 30, Integer.MIN_VALUE, Integer.MAX_VALUE};
        for (int i : none) {
            CHECKS.equal("byte " + i, reader.spelt(0, i), -1);
            CHECKS.equal("name " + i, reader.spelt(i, 0), -1);
        }
    }

    // More names than the first rows hold, so that they grow, and all must be found again.
    private static void many() {
        ProgramReader reader = new ProgramReader();
        StringBuilder text = new StringBuilder("fun f(f");
        for (int i = 0; text.length() < 7990; i++) {
            text.append(',').append((char) ('A' + i / 63 % 26)).append(wordByte(i));
        }
        text.append("){}");
        int due = (text.length() - 10) / 3;
        CHECKS.equal("read", Checks.readText(reader, 0, text.toString()), -1);
        CHECKS.equal("how many nodes", reader.nodes(0), due + 5);
        int distinct = Math.min(due, 26 * 63) + 1;
        CHECKS.equal("how many names", reader.names(), distinct);
        for (int i = 0; i < due; i++) {
            CHECKS.equal("number of " + i, reader.node(0, 4 + i, 2), i % (26 * 63) + 1);
        }
        for (int i = 0; i < distinct - 1; i++) {
            String name = "" + (char) ('A' + i / 63 % 26) + wordByte(i);
            CHECKS.equal("name " + i, Checks.nameText(reader, i + 1), name);
        }
    }

    private static char wordByte(int i) {
        return "abcdefghijklmnopqrstuvwxyzABCDEFGHIJKLMNOPQRSTUVWXYZ0123456789_".charAt(i % 63);
    }
}
