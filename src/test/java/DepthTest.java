/** Promise 3, on what lies deeper: 60 deep is read, the first token of what is 61 deep is a fault. */
public final class DepthTest {
    private static final Checks CHECKS = new Checks("depth");

    public static void main(String[] args) {
        nested("fun f(){x=", "-|", "y", "", ";}", 58);
        nested("fun f(){x=", "(|", "y", ")", ";}", 58);
        nested("fun f(){x=", "a[|", "y", "]", ";}", 58);
        nested("fun f(){x=", "-|(", "y", ")", ";}", 29);
        nested("fun f(){x=1+2*", "(|3-4*", "y", "*5+6)", "-7;}", 58);
        nested("fun f(){var x=", "(|", "y", ")", ";}", 58);
        nested("fun f(){return", "(|", "y", ")", ";}", 58);
        nested("fun f(){x[", "-|", "1", "", "]=2;}", 58);
        nested("fun f(){x[1]=", "-|", "1", "", ";}", 58);
        nested("fun f(){g(1,", "(|", "any(-1,1)", ")", ",2);}", 58);
        nested("fun f(){x=g(", "(|", "any", ")", ");}", 58);
        nested("fun f(){assert(", "[|", "x<y", "]", ");}", 57);
        nested("fun f(){assert(", "!|", "x<y", "", ");}", 57);
        nested("fun f(){assert(1<2||3<4&&", "[|", "x<y", "]", "&&5<6);}", 57);
        nested("fun f(){assert(x<", "-|", "y", "", ");}", 57);
        nested("fun f(){assert(", "(|", "y", ")", "<1);}", 57);
        nested("fun f(){if(1<2){", "while(|3<4){", "x=y;", "}", "}else{}}", 57);
        nested("fun f(){if(1<2){}else{", "if(|3<4){}else{", "g(1);", "}", "}}", 57);
        blocks();
        mixed();
        beyond();
        written();
        CHECKS.end();
    }

    // most: how often the step fits before its core; in the next one what stands behind the mark
    // is 61 deep.
    private static void nested(String head, String marked, String core, String back, String tail, int most) {
        String step = marked.replace("|", "");
        String what = head + marked + core;
        CHECKS.equal(what + " fits", fault(text(head, step, core, back, tail, most)), -1);
        int due = head.length() + step.length() * most + marked.indexOf('|');
        CHECKS.equal(what + " is too deep", fault(text(head, step, core, back, tail, most + 1)), due);
        // Behind one [ or ! more it is no longer a SUM that is too deep, but a COND or TEST.
        int far = step.equals("[") || step.equals("!") ? due + 1 : due;
        CHECKS.equal(what + " far too deep", fault(text(head, step, core, back, tail, 200)), far);
    }

    private static String text(String head, String step, String core, String back, String tail, int times) {
        return head + Checks.repeat(step, times) + core + Checks.repeat(back, times) + tail;
    }

    private static void blocks() {
        String open = "fun f(){" + Checks.repeat("if(1<2){", 58);
        String close = Checks.repeat("}", 58) + "}";
        CHECKS.equal("59 blocks", fault(open + close), -1);
        String[] fit = {"x=y;", "x=g();", "g();", "g(1,2);", "var x;", "var x[5];", "return 1;"};
        for (String statement : fit) {
            CHECKS.equal(statement, fault(open + statement + close), -1);
        }
        String[] deep = {"x=-|y;", "x=a[|1];", "g((|1));", "g(1,-|2);", "if(|1<2){}", "assert(!|1<2);",
            "while([|1<2]){}", "assert(|-1<2);", "return a[|b];", "a[-|1]=1;", "x=1+2*(|3);"};
        for (String statement : deep) {
            int due = open.length() + statement.indexOf('|');
            CHECKS.equal(statement, fault(open + statement.replace("|", "") + close), due);
        }
    }

    private static void mixed() {
        CHECKS.equal("the document's own", fault("fun f() { x = -(y); }"), -1);
        String sum = "fun f(){assert(![" + Checks.repeat("!", 10) + "1<" + Checks.repeat("-(", 22);
        CHECKS.equal("nothing in brackets", fault(sum + Checks.repeat(")", 22) + "]);}"), sum.length());
        String fits = sum + "-1" + Checks.repeat(")", 22) + "]);}";
        CHECKS.equal("one sign more fits", fault(fits), -1);
        CHECKS.equal("two signs more", fault(sum + "--1" + Checks.repeat(")", 22) + "]);}"), sum.length() + 2);
        CHECKS.equal("depth ends with brackets", fault("fun f(){x=" + text("", "(", "y", ")", "", 58)
            + "+" + text("", "-", "y", "", "", 58) + ";y=" + text("", "(", "y", ")", "", 58) + ";}"), -1);
    }

    private static void beyond() {
        String minus = "fun f(){x=" + Checks.repeat("-", 59);
        CHECKS.equal("a wrong token there", fault(minus + ");}"), minus.length());
        CHECKS.equal("no token there", fault(minus + "$"), minus.length());
        CHECKS.equal("the end there", fault(minus), minus.length());
        CHECKS.equal("the end behind blanks", fault(minus + "  "), minus.length() + 2);
        CHECKS.equal("blanks before it", fault(minus + " // -\n 1;}"), minus.length() + 7);
        CHECKS.equal("a fault before it", fault("fun f(){x=1 " + minus + "1;}"), 12);
        CHECKS.equal("a bad byte behind it", fault(minus + "1$"), minus.length());
        String nots = "fun f(){assert(" + Checks.repeat("!", 60) + "1<2);}";
        CHECKS.equal("a 60th ! is itself too deep", fault(nots), 15 + 59);
        String squares = "fun f(){assert(" + Checks.repeat("[", 60) + "1<2";
        CHECKS.equal("a 60th [ is itself too deep", fault(squares), 15 + 59);
    }

    private static void written() {
        ProgramReader reader = new ProgramReader();
        String text = text("fun f(){x=", "(1+2*", "y", ")", ";}", 58);
        CHECKS.equal("deep tree", Checks.readText(reader, 0, text), -1);
        String due = "fun f(){x=1+2*" + text("", "(1+2*", "y", ")", "", 57) + ";}";
        CHECKS.equal("deep tree written", Checks.writeText(reader, 0, 0), due);
        CHECKS.equal("again", reader.again(), due.length());
        CHECKS.equal("read again", reader.read(1, -1), -1);
        CHECKS.equal("same", reader.same() ? 1 : 0, 1);
    }

    private static int fault(String text) {
        return Checks.readText(new ProgramReader(), 0, text);
    }
}
