import java.util.Random;

/** Terms, on what lies deeper: 60 deep is read, the first token of what is 61 deep is a fault. */
public final class DepthTest {
    private static final Checks CHECKS = new Checks("depth");

    public static void main(String[] args) {
        eachKind();
        blocks();
        ownExample();
        oneDeepInNone();
        whatIsNoneOfThese();
        behindAssign();
        mixed();
        siblings();
        beyond();
        written();
        for (int seed = 0; seed < 3000; seed++) {
            chain(new Random(seed));
        }
        CHECKS.end();
    }

    private static void eachKind() {
        CHECKS.sentence("A BLOCK, SUM, COND, FACTOR behind -, or TEST behind ! lies one DEEPER .. none may lie more than 60 deep");
        nested("fun f(){x=", "-|", "y", "", ";}", 58);
        nested("fun f(){x=", "(|", "y", ")", ";}", 58);
        nested("fun f(){x=", "a[|", "y", "]", ";}", 58);
        nested("fun f(){x=", "-|(", "y", ")", ";}", 29);
        nested("fun f(){x=1+2*", "(|3-4*", "y", "*5+6)", "-7;}", 58);
        nested("fun f(){var x=", "(|", "y", ")", ";}", 58);
        nested("fun f(){return", "(|", "y", ")", ";}", 58);
        nested("fun f(){x[", "-|", "1", "", "]=2;}", 58);
        nested("fun f(){x[1]=", "-|", "1", "", ";}", 58);
        nested("fun f(){g(1,", "(|", "any(-1,1)", ")", ",2);}", 58);
        nested("fun f(){x=g(", "(|", "any", ")", ");}", 58);
        nested("fun f(){assert(", "[|", "x<y", "]", ");}", 57);
        nested("fun f(){assert(", "!|", "x<y", "", ");}", 57);
        nested("fun f(){assert(1<2||3<4&&", "[|", "x<y", "]", "&&5<6);}", 57);
        nested("fun f(){assert(x<", "-|", "y", "", ");}", 57);
        nested("fun f(){assert(", "(|", "y", ")", "<1);}", 57);
        nested("fun f(){if(1<2){", "while(|3<4){", "x=y;", "}", "}else{}}", 57);
        nested("fun f(){if(1<2){}else{", "if(|3<4){}else{", "g(1);", "}", "}}", 57);
        nested("fun f(){if(", "[|", "x<y", "]", "){}}", 57);
        nested("fun f(){assert(1<2&&!", "!|", "3<4", "", ");}", 56);
    }

    // most: how often the step fits before its core; in the next one what stands behind the mark
    // is 61 deep.
    private static void nested(String head, String marked, String core, String back, String tail, int most) {
        String step = marked.replace("|", "");
        String what = head + marked + core;
        CHECKS.equal(what + " fits", fault(text(head, step, core, back, tail, most)), -1);
        int due = head.length() + step.length() * most + marked.indexOf('|');
        CHECKS.equal(what + " is too deep", fault(text(head, step, core, back, tail, most + 1)), due);
        // Behind one [ or ! more it is no longer a SUM that is too deep, but a COND or TEST.
        int far = step.equals("[") || step.equals("!") ? due + 1 : due;
        CHECKS.equal(what + " far too deep", fault(text(head, step, core, back, tail, 200)), far);
    }

    private static String text(String head, String step, String core, String back, String tail, int times) {
        return head + Checks.repeat(step, times) + core + Checks.repeat(back, times) + tail;
    }

    private static void blocks() {
        CHECKS.sentence("A BLOCK .. lies one DEEPER than the innermost one of these in which it lies");
        String[] openings = {"if(1<2){", "while(1<2){", "if(1<2){}else{"};
        for (String opening : openings) {
            String open = "fun f(){" + Checks.repeat(opening, 58);
            String close = Checks.repeat("}", 58) + "}";
            CHECKS.equal("59 blocks of " + opening, fault(open + close), -1);
            // The COND before the 60th would be 60 deep, and its SUMs 61.
            int due = open.length() + opening.indexOf("1<2");
            CHECKS.equal("60 blocks of " + opening, fault(open + opening + "}" + close), due);
            String[] fit = {"x=y;", "x=g();", "g();", "g(1,2);", "x=g(1,2);", "var x;", "var x[5];", "var x=1;",
                "return 1;", "a[1]=2;", "x=any(-1,1);", "x=1*2+3;"};
            for (String statement : fit) {
                CHECKS.equal(statement, fault(open + statement + close), -1);
            }
            String[] deep = {"x=-|y;", "x=a[|1];", "g((|1));", "g(1,-|2);", "x=g(1,-|2);", "if(|1<2){}",
                "assert(!|1<2);", "while([|1<2]){}", "assert(|-1<2);", "return a[|b];", "a[-|1]=1;", "a[1]=-|1;",
                "x=1+2*(|3);", "var x=(|1);", "if(|(1)<2){}", "assert(!|!1<2);", "assert([|[1<2]]);"};
            for (String statement : deep) {
                int place = open.length() + statement.indexOf('|');
                CHECKS.equal(statement, fault(open + statement.replace("|", "") + close), place);
            }
        }
    }

    private static void ownExample() {
        CHECKS.sentence("(fun f() { x = -(y); } : 4 deep, at y)");
        CHECKS.equal("as it stands", fault("fun f() { x = -(y); }"), -1);
        String head = "fun f() { x = -(";
        CHECKS.equal("56 deeper", fault(head + Checks.repeat("-", 56) + "y); }"), -1);
        CHECKS.equal("57 deeper", fault(head + Checks.repeat("-", 57) + "y); }"), head.length() + 57);
        CHECKS.equal("56 brackets", fault(head + text("", "(", "y", ")", "", 56) + "); }"), -1);
        CHECKS.equal("57 brackets", fault(head + text("", "(", "y", ")", "", 57) + "); }"), head.length() + 57);
    }

    private static void oneDeepInNone() {
        CHECKS.sentence("and 1 deep in none");
        String deep = text("fun f(){x=", "(", "y", ")", ";}", 58);
        CHECKS.equal("in the first function", fault(deep), -1);
        CHECKS.equal("in the second one too", fault(deep + deep), -1);
        String deeper = text("fun f(){x=", "(", "y", ")", ";}", 59);
        CHECKS.equal("too deep in the second", fault(deep + deeper), deep.length() + 10 + 59);
        CHECKS.equal("behind many names", fault("fun f(" + Checks.repeat("a,", 100) + "a){x="
            + text("", "(", "y", ")", "", 58) + ";}"), -1);
    }

    // Each of these stands in a SUM, COND or FACTOR that is 60 deep itself.
    private static void whatIsNoneOfThese() {
        CHECKS.sentence("A BLOCK, SUM, COND, FACTOR behind -, or TEST behind !");
        String[] sums = {"1+2", "1-2", "1*2", "1/2%3", "1+2*3-4", "any", "any(1,2)", "any(-1,-2)", "a", "7"};
        for (String sum : sums) {
            CHECKS.equal(sum, fault(text("fun f(){x=", "(", sum, ")", ";}", 58)), -1);
            CHECKS.equal(sum + " in a[]", fault(text("fun f(){x=", "a[", sum, "]", ";}", 58)), -1);
            CHECKS.equal(sum + " behind -", fault("fun f(){x=" + Checks.repeat("-", 58) + sum + ";}"), -1);
        }
        String[] conditions = {"1<2", "1<2&&3<4", "1<2||3<4", "1<2||3<4&&5<6", "1+2*3<4"};
        for (String condition : conditions) {
            CHECKS.equal(condition, fault(text("fun f(){assert(", "[", condition, "]", ");}", 57)), -1);
            CHECKS.equal(condition, fault("fun f(){assert(" + Checks.repeat("!", 57) + condition + ");}"), -1);
        }
    }

    private static void behindAssign() {
        CHECKS.sentence("(behind = a NAME begins a SUM unless ( comes behind it)");
        String open = "fun f(){" + Checks.repeat("if(1<2){", 58);
        String close = Checks.repeat("}", 59);
        CHECKS.equal("a SUM 60 deep", fault(open + "x=y;" + close), -1);
        CHECKS.equal("a call in a BLOCK 59 deep", fault(open + "x=y();" + close), -1);
        CHECKS.equal("its SUMs 60 deep", fault(open + "x=y(1,z);" + close), -1);
        CHECKS.equal("blanks before (", fault(open + "x=y // (\n (1);" + close), -1);
        CHECKS.equal("its FACTOR 61 deep", fault(open + "x=y(1,-z);" + close), open.length() + 7);
        CHECKS.equal("a SUM in [ ] 61 deep", fault(open + "x=y[1];" + close), open.length() + 4);
        CHECKS.equal("no call in a SUM", fault(open + "x=y+z(1);" + close), open.length() + 5);
    }

    private static void mixed() {
        CHECKS.sentence("one DEEPER than the innermost one of these in which it lies");
        String sum = "fun f(){assert(![" + Checks.repeat("!", 10) + "1<" + Checks.repeat("-(", 22);
        CHECKS.equal("nothing in brackets", fault(sum + Checks.repeat(")", 22) + "]);}"), sum.length());
        String fits = sum + "-1" + Checks.repeat(")", 22) + "]);}";
        CHECKS.equal("one sign more fits", fault(fits), -1);
        CHECKS.equal("two signs more", fault(sum + "--1" + Checks.repeat(")", 22) + "]);}"), sum.length() + 2);
        CHECKS.equal("28 of ![ ]", fault(text("fun f(){while(", "![", "x<y", "]", "){}}", 28)), -1);
        CHECKS.equal("29 of ![ ]", fault(text("fun f(){while(", "![", "x<y", "]", "){}}", 29)), 14 + 58);
        CHECKS.equal("30 of ![ ]", fault(text("fun f(){while(", "![", "x<y", "]", "){}}", 30)), 14 + 59);
    }

    private static void siblings() {
        CHECKS.sentence("one DEEPER than the innermost one of these in which it lies");
        String deep = text("", "(", "y", ")", "", 58);
        String signs = Checks.repeat("-", 58) + "y";
        CHECKS.equal("depth ends with brackets", fault("fun f(){x=" + deep + "+" + signs + "*" + deep
            + ";y=" + deep + ";}"), -1);
        CHECKS.equal("SUMs of a call", fault("fun f(){g(" + deep + "," + signs + "," + deep + ");}"), -1);
        String squares = text("", "[", "1<2", "]", "", 57);
        String nots = Checks.repeat("!", 57) + "1<2";
        CHECKS.equal("TESTs", fault("fun f(){assert(" + squares + "&&" + nots + "||" + squares + ");}"), -1);
        String shallow = text("", "(", "y", ")", "", 57);
        CHECKS.equal("both SUMs of a RELATION", fault("fun f(){assert(" + shallow + "<" + shallow + ");}"), -1);
        CHECKS.equal("the second one too deep", fault("fun f(){assert(1<" + deep + ");}"), 17 + 58);
        CHECKS.equal("both BLOCKs of if", fault("fun f(){if(1<2){x=" + shallow + ";}else{x=" + shallow + ";}}"), -1);
        CHECKS.equal("both SUMs of [ ] =", fault("fun f(){a[" + deep + "]=" + deep + ";}"), -1);
        String loops = text("", "while(1<2){", "", "}", "", 58);
        CHECKS.equal("BLOCKs one behind the other", fault("fun f(){" + loops + loops + "x=" + deep + ";}"), -1);
    }

    private static void beyond() {
        CHECKS.sentence("the first token of something that is 61 deep");
        String minus = "fun f(){x=" + Checks.repeat("-", 59);
        CHECKS.equal("a wrong token there", fault(minus + ");}"), minus.length());
        CHECKS.equal("no token there", fault(minus + "$"), minus.length());
        CHECKS.equal("the end there", fault(minus), minus.length());
        CHECKS.equal("the end behind blanks", fault(minus + "  "), minus.length() + 2);
        CHECKS.equal("blanks before it", fault(minus + " // -\n 1;}"), minus.length() + 7);
        CHECKS.equal("a fault before it", fault("fun f(){x=1 " + minus + "1;}"), 12);
        CHECKS.equal("a bad byte behind it", fault(minus + "1$"), minus.length());
        String nots = "fun f(){assert(" + Checks.repeat("!", 60) + "1<2);}";
        CHECKS.equal("a 60th ! is itself too deep", fault(nots), 15 + 59);
        String squares = "fun f(){assert(" + Checks.repeat("[", 60) + "1<2";
        CHECKS.equal("a 60th [ is itself too deep", fault(squares), 15 + 59);
    }

    private static void written() {
        CHECKS.sentence("none may lie more than 60 deep");
        Sitting reader = new Sitting();
        String text = text("fun f(){x=", "(1+2*", "y", ")", ";}", 58);
        CHECKS.equal("deep tree", Checks.readText(reader, 0, text), -1);
        String due = "fun f(){x=1+2*" + text("", "(1+2*", "y", ")", "", 57) + ";}";
        CHECKS.equal("deep tree written", Checks.writeText(reader, 0, 0), due);
        CHECKS.equal("again", reader.again(), due.length());
        CHECKS.equal("read again", reader.read(1, -1), -1);
        CHECKS.equal("same", reader.same() ? 1 : 0, 1);
    }

    // By chance one thing in another, up to 60 or 61 deep, with the depth counted alongside.
    private static void chain(Random random) {
        CHECKS.sentence("THE FAULT lies at .. the first token of something that is 61 deep");
        Chain chain = new Chain(random, 60 + random.nextInt(3));
        String text = chain.make();
        if (text.length() <= 8000) {
            CHECKS.equal("fault of " + text, fault(text), chain.fault);
        }
    }

    /** One thing in another, each with what closes it; fault is the place of the first one 61 deep. */
    private static final class Chain {
        private final Random random;
        private final int most;
        private final StringBuilder front = new StringBuilder();
        private String back = "";
        private int depth = 0;
        int fault = -1;

        Chain(Random random, int most) {
            this.random = random;
            this.most = most;
        }

        String make() {
            open("fun f()", "");
            deeper();
            open("{", "}");
            int blocks = random.nextInt(58);
            for (int i = 0; i < blocks && depth < 57; i++) {
                block();
            }
            if (random.nextBoolean()) {
                condition(new String[] {"if(", "while(", "assert("}, new String[] {"){}", "){}else{}", ");"});
            } else {
                String[] heads = {"x=", "var x=", "return ", "g(", "x=g(1,", "a[", "a[1]="};
                String[] tails = {";", ";", ";", ");", ",2);", "]=1;", ";"};
                int choice = random.nextInt(heads.length);
                open(heads[choice], tails[choice]);
                sum();
            }
            return front + back;
        }

        private void open(String before, String behind) {
            front.append(before);
            back = behind + back;
        }

        private void deeper() {
            depth++;
            if (depth == 61) {
                fault = front.length();
            }
        }

        private void block() {
            String[] heads = {"if(1<2)", "while(!1<2)", "if(1<2){}else", "x=1;if(1<2)"};
            String[] tails = {"", "", "", "y=2;"};
            int choice = random.nextInt(heads.length);
            open(heads[choice], tails[choice]);
            deeper();
            open("{", "}");
        }

        private void condition(String[] heads, String[] tails) {
            int choice = random.nextInt(heads.length);
            open(heads[choice], choice == 2 ? tails[2] : tails[random.nextInt(choice == 0 ? 2 : 1)]);
            deeper();
            int steps = random.nextInt(60);
            boolean square = true;
            for (int i = 0; i < steps && depth < most - 1; i++) {
                // Behind ! it would end the TEST, and the rest would no longer lie in that.
                if (square && depth < 60 && random.nextInt(4) == 0) {
                    open(random.nextBoolean() ? "1<2&&" : "1<2||", "");
                }
                square = random.nextBoolean();
                open(square ? "[" : "!", square ? "]" : "");
                deeper();
            }
            boolean second = depth < 60 && random.nextBoolean();
            open(second ? "1<" : "", second ? "" : "<1");
            sum();
        }

        private void sum() {
            deeper();
            int choice = 1;
            while (depth < most) {
                // Behind - it would end the FACTOR, and the rest would no longer lie in that.
                if (choice != 0 && random.nextInt(4) == 0) {
                    open(random.nextBoolean() ? "1+" : "any(-1,2)*", "");
                }
                String[] heads = {"-", "(", "a["};
                String[] tails = {"", ")", "]"};
                choice = random.nextInt(heads.length);
                open(heads[choice], tails[choice]);
                deeper();
            }
            open("y", "");
        }
    }

    private static int fault(String text) {
        return Checks.fault(text);
    }
}
