/** Terms, on the numbers of NAMEs, and promises 8 and 9: how many there are, and their bytes. */
public final class NamesTest {
    private static final Checks CHECKS = new Checks("names");

    public static void main(String[] args) {
        inOrder();
        inAllTexts();
        differing();
        inTheFunctionWithTheFault();
        behindTheFault();
        beforeTheFault();
        readFirstBeforeTheFault();
        faultOfEachSort();
        laterReadWell();
        whatBringsNone();
        spelt();
        noSuchName();
        noSuchByte();
        eachNumberOfNames();
        many();
        CHECKS.end();
    }

    private static void names(Sitting reader, String due) {
        CHECKS.equal("names", Checks.allNames(reader), due);
        CHECKS.equal("how many", reader.names(), due.isEmpty() ? 0 : due.split(" ").length);
    }

    private static void inOrder() {
        CHECKS.sentence("NAMEs are numbered from 0 as they are read first");
        Sitting reader = new Sitting();
        names(reader, "");
        Checks.readText(reader, 0, "fun main(b,a){a=f(b,c[d]);e[g]=h;var main;i();// z\n}");
        names(reader, "main b a f c d e g h i");
        CHECKS.equal("node main", reader.node(0, 2, 2), 0);
        CHECKS.equal("node b", reader.node(0, 3, 2), 1);
        CHECKS.equal("node a", reader.node(0, 4, 2), 2);
        String[] statements = {"var b;", "var b=c;", "var b[1];", "b=c;", "b[c]=d;", "b=c(d,e);", "b(c,d);",
            "b=c();", "b();", "if(b<c){d();}else{e();}", "while(b<c){d();}", "assert(b<c);", "return b;",
            "b=c[d[e]]+-h*(i-any);", "assert(!b<c||[d<e&&h<i]);", "b=a+b+c;"};
        String[] due = {"b", "b c", "b", "b c", "b c d", "b c d e", "b c d", "b c", "b", "b c d e", "b c d", "b c",
            "b", "b c d e h i", "b c d e h i", "b c"};
        for (int i = 0; i < statements.length; i++) {
            Sitting other = new Sitting();
            Checks.readText(other, 1, "fun f(a){" + statements[i] + "}");
            names(other, "f a " + due[i]);
        }
    }

    private static void inAllTexts() {
        CHECKS.sentence("in all texts");
        Sitting reader = new Sitting();
        Checks.readText(reader, 0, "fun f(a){}");
        Checks.readText(reader, 1, "fun g(a,f,b){}");
        names(reader, "f a g b");
        CHECKS.equal("a new one", reader.node(1, 2, 2), 2);
        CHECKS.equal("an old one", reader.node(1, 3, 2), 1);
        CHECKS.equal("another old one", reader.node(1, 4, 2), 0);
        CHECKS.equal("another new one", reader.node(1, 5, 2), 3);
        Checks.readText(reader, 1, "fun c(a){}");
        Checks.readText(reader, 0, "");
        names(reader, "f a g b c");
        Checks.readText(reader, 0, "fun b(g){}");
        CHECKS.equal("its tree is long gone", reader.node(0, 2, 2), 3);
        names(reader, "f a g b c");
    }

    private static void differing() {
        CHECKS.sentence("13 a NAME: value its own number");
        Sitting reader = new Sitting();
        Checks.readText(reader, 0, "fun A(a,aa,Aa,a_,_,a0,a1,aaa,_a,a){}");
        names(reader, "A a aa Aa a_ _ a0 a1 aaa _a");
        Checks.readText(reader, 1, "fun abcdefghijklmnopqrstuvwxyzabcd(abcdefghijklmnopqrstuvwxyzabce){}");
        CHECKS.equal("30 bytes, the last one differs", reader.names(), 12);
        // The same by a hash of 31 times the sum so far and a byte.
        Checks.readText(reader, 1, "fun Ab(BC,AbBC,BCAb,AbAb,BCBC){}");
        CHECKS.equal("all differ", reader.names(), 18);
        CHECKS.equal("the last one", Checks.nameText(reader, 17), "BCBC");
    }

    private static void inTheFunctionWithTheFault() {
        CHECKS.sentence("(those that were read first in the FUNCTION with a fault do not count");
        Sitting reader = new Sitting();
        Checks.readText(reader, 0, "fun f(a){b=c;d=;}");
        names(reader, "");
        Checks.readText(reader, 0, "fun f(a){b=c;d=e;}fun g(h){i=j;k=;}");
        names(reader, "f a b c d e");
        Checks.readText(reader, 1, "fun l(m){n");
        names(reader, "f a b c d e");
        Checks.readText(reader, 1, "fun l");
        names(reader, "f a b c d e");
        CHECKS.equal("nothing of them", reader.spelt(6, 0), -1);
    }

    private static void behindTheFault() {
        CHECKS.sentence("what stands behind it is not read)");
        Sitting reader = new Sitting();
        Checks.readText(reader, 0, "fun f(){;x=y;}fun g(){}");
        names(reader, "");
        Checks.readText(reader, 0, "fun f(){}fun g(){;}fun h(){}");
        names(reader, "f");
        Checks.readText(reader, 0, "fun i(){}j fun k(){}");
        names(reader, "f i");
    }

    private static void beforeTheFault() {
        CHECKS.sentence("A text with a fault has the FUNCTIONs before the one with it");
        Sitting reader = new Sitting();
        Checks.readText(reader, 0, "fun f(a){}fun g(b){x=a;}fun h(c){y=;}");
        names(reader, "f a g b x");
        CHECKS.equal("node x", reader.node(0, 10, 2), 4);
    }

    private static void readFirstBeforeTheFault() {
        CHECKS.sentence("(those that were read first in the FUNCTION with a fault do not count");
        Sitting reader = new Sitting();
        Checks.readText(reader, 0, "fun f(a){}fun g(a,f,b){a=f;b=;}");
        names(reader, "f a");
        Checks.readText(reader, 1, "fun b(a){f=;}");
        names(reader, "f a");
    }

    private static void faultOfEachSort() {
        CHECKS.sentence("(those that were read first in the FUNCTION with a fault do not count");
        String[] faults = {"x=1 2;}", "x=$;}", "x=" + Checks.repeat("n", 31) + ";}", "x=2147483648;}",
            "x=" + Checks.repeat("-", 59) + "y;}", "x=y;", "x=y", "x", ""};
        for (String fault : faults) {
            Sitting reader = new Sitting();
            Checks.readText(reader, 0, "fun f(){}fun g(h){i=j;" + fault);
            names(reader, "f");
        }
    }

    private static void laterReadWell() {
        CHECKS.sentence("NAMEs are numbered from 0 as they are read first");
        Sitting reader = new Sitting();
        Checks.readText(reader, 0, "fun f(){}fun g(h,i){j=;}");
        Checks.readText(reader, 1, "fun j(i,h,g){}");
        names(reader, "f j i h g");
        CHECKS.equal("no gap", reader.node(1, 2, 2), 1);
    }

    private static void whatBringsNone() {
        CHECKS.sentence("How many names there are");
        Sitting reader = new Sitting();
        Checks.feedText(reader, "fun f(a){}");
        CHECKS.equal("feeding brings none", reader.names(), 0);
        CHECKS.equal("refused", reader.read(2, 10), -2);
        CHECKS.equal("nor a refused read", reader.names(), 0);
        reader.read(0, 10);
        CHECKS.equal("reading does", reader.names(), 2);
        reader.write(0, 0);
        reader.again();
        CHECKS.equal("writing brings none", reader.names(), 2);
        reader.read(1, -1);
        CHECKS.equal("nor reading the same", reader.names(), 2);
        Checks.readText(reader, 1, "fun f(){}");
        CHECKS.equal("names stay", reader.names(), 2);
        Checks.readText(reader, 0, "");
        CHECKS.equal("though in no tree", reader.names(), 2);
        Checks.readText(reader, 0, "fun f(){if(1<2){}else{}while(1<2){}x=any;return 1;var y;assert(1<2);}//z");
        names(reader, "f a x y");
    }

    private static void spelt() {
        CHECKS.sentence("Byte i of a name");
        Sitting reader = new Sitting();
        String longest = "_Zz09" + Checks.repeat("q", 24) + "r";
        Checks.readText(reader, 0, "fun ab(" + longest + ",c){}");
        CHECKS.equal("a", reader.spelt(0, 0), 'a');
        CHECKS.equal("b", reader.spelt(0, 1), 'b');
        CHECKS.equal("the first byte of 30", reader.spelt(1, 0), '_');
        CHECKS.equal("the last byte of 30", reader.spelt(1, 29), 'r');
        CHECKS.equal("longest", Checks.nameText(reader, 1), longest);
        CHECKS.equal("one byte", reader.spelt(2, 0), 'c');
    }

    private static void noSuchName() {
        CHECKS.sentence("Byte i of a name; NONE when there is none such");
        Sitting reader = new Sitting();
        CHECKS.equal("no names yet", reader.spelt(0, 0), -1);
        Checks.readText(reader, 0, "fun ab(cd){}");
        int[] none = {-1, -2, 2, 3, 30, Integer.MIN_VALUE, Integer.MAX_VALUE};
        for (int name : none) {
            CHECKS.equal("name " + name, reader.spelt(name, 0), -1);
            CHECKS.equal("name " + name, reader.spelt(name, -1), -1);
        }
        CHECKS.equal("the last name", reader.spelt(1, 0), 'c');
    }

    private static void noSuchByte() {
        CHECKS.sentence("Byte i of a name; NONE when there is none such");
        Sitting reader = new Sitting();
        Checks.readText(reader, 0, "fun ab(" + Checks.repeat("q", 30) + ",c,d){}");
        int[] none = {-1, -2, 30, 31, Integer.MIN_VALUE, Integer.MAX_VALUE};
        for (int i : none) {
            for (int name = 0; name < 4; name++) {
                CHECKS.equal("byte " + i + " of " + name, reader.spelt(name, i), -1);
            }
        }
        CHECKS.equal("behind two", reader.spelt(0, 2), -1);
        CHECKS.equal("behind one", reader.spelt(2, 1), -1);
        CHECKS.equal("behind the last", reader.spelt(3, 1), -1);
    }

    // Rows grow at some number of names: before, at and behind it all must be there, and no more.
    private static void eachNumberOfNames() {
        CHECKS.sentence("NAMEs are numbered .. as they are read first, in all texts");
        for (int names = 1; names <= 300; names++) {
            numberOfNames("n", names);
        }
        String prefixes = "abcdefghijklmopqrstuvwxyzABCDEFGHIJKLMNOPQRSTUVWXYZ_";
        for (int i = 0; i < prefixes.length(); i++) {
            for (int power = 8; power <= 256; power *= 2) {
                numberOfNames(prefixes.substring(i, i + 1), power);
                numberOfNames(prefixes.substring(i, i + 1), power + 1);
            }
        }
    }

    private static void numberOfNames(String prefix, int names) {
        StringBuilder text = new StringBuilder("fun f(f");
        for (int name = 2; name <= names; name++) {
            text.append(',').append(prefix).append(name);
        }
        text.append("){}");
        Sitting reader = new Sitting();
        CHECKS.equal("read", Checks.readText(reader, 0, text.toString()), -1);
        CHECKS.equal("names", reader.names(), names);
        CHECKS.equal("name behind the last", reader.spelt(names, 0), -1);
        CHECKS.equal("bytes of the last", Checks.nameText(reader, names - 1), names == 1 ? "f" : prefix + names);
        CHECKS.equal("read again", Checks.readText(reader, 1, text.toString()), -1);
        CHECKS.equal("no new names", reader.names(), names);
        CHECKS.equal("same", reader.same(), true);
    }

    // More names than the first rows hold, so that they grow, and all must be found again.
    private static void many() {
        CHECKS.sentence("How many names there are");
        Sitting reader = new Sitting();
        StringBuilder text = new StringBuilder("fun f(f");
        for (int i = 0; text.length() < 7990; i++) {
            text.append(',').append((char) ('A' + i / 63 % 26)).append(wordByte(i));
        }
        text.append("){}");
        int due = (text.length() - 10) / 3;
        CHECKS.equal("read", Checks.readText(reader, 0, text.toString()), -1);
        CHECKS.equal("how many nodes", reader.nodes(0), due + 5);
        int distinct = Math.min(due, 26 * 63) + 1;
        CHECKS.equal("how many names", reader.names(), distinct);
        for (int i = 0; i < due; i++) {
            CHECKS.equal("number of " + i, reader.node(0, 4 + i, 2), i % (26 * 63) + 1);
        }
        for (int i = 0; i < distinct - 1; i++) {
            String name = "" + (char) ('A' + i / 63 % 26) + wordByte(i);
            CHECKS.equal("name " + i, Checks.nameText(reader, i + 1), name);
        }
    }

    private static char wordByte(int i) {
        return "abcdefghijklmnopqrstuvwxyzABCDEFGHIJKLMNOPQRSTUVWXYZ0123456789_".charAt(i % 63);
    }
}
