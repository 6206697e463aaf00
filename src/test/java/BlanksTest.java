/** Terms: the text's places, the four blank bytes, and remarks, with both sides of each edge. */
public final class BlanksTest {
    private static final Checks CHECKS = new Checks("blanks");

    public static void main(String[] args) {
        places();
        blankBytes();
        blanksPartTokens();
        remarkEndsAtByte10();
        remarkEndsAtTheEnd();
        remarkNeedsTwoSlashes();
        remarkIsBlank();
        remarkCutByRead();
        CHECKS.end();
    }

    private static void places() {
        CHECKS.sentence("THE TEXT is a row of bytes, at places from 0 on");
        for (int place = 0; place < 60; place++) {
            fault(Checks.repeat(" ", place) + "$ fun f(){}", place);
        }
        fault("fun f(){}" + Checks.repeat(" ", 7990) + "$", 7999);
    }

    private static boolean isBlank(int b) {
        return b == 9 || b == 10 || b == 13 || b == 32;
    }

    private static void blankBytes() {
        CHECKS.sentence("BLANKS are the bytes 9, 10, 13, 32");
        for (int b = 0; b < 256; b++) {
            fault((char) b + "fun f(){}", isBlank(b) ? -1 : 0);
            fault("fun f(){}" + (char) b, isBlank(b) ? -1 : 9);
            fault("fun f(" + (char) b + "){}", isBlank(b) || isLetter(b) ? -1 : b == ')' ? 7 : 6);
            fault("fun f()" + (char) b + "{}", isBlank(b) ? -1 : b == '{' ? 8 : 7);
        }
        fault("\t\n\r fun\t\n\r f\t\n\r (\t\n\r )\t\n\r {\t\n\r }\t\n\r ", -1);
        fault("fun f(){}" + Checks.repeat("\t\n\r ", 1997), -1);
        fault(Checks.repeat(" \r\n\t", 1997) + "fun f(){}", -1);
    }

    private static boolean isLetter(int b) {
        return b >= 'A' && b <= 'Z' || b >= 'a' && b <= 'z' || b == '_';
    }

    private static void blanksPartTokens() {
        CHECKS.sentence("BLANKS are the bytes 9, 10, 13, 32, and remarks");
        String[] blanks = {"\t", "\n", "\r", " ", "//\n", "  ", "// x\n//\n"};
        for (String blank : blanks) {
            fault("fun" + blank + "f(){}", -1);
            fault("f" + blank + "un f(){}", 0);
            fault("fun f(){x=1" + blank + "2;}", 11 + blank.length());
            fault("fun f(){x=a" + blank + "b;}", 11 + blank.length());
            fault("fun f(){x=" + blank + "1;}", -1);
            fault("fun f(){x=1<" + blank + "2;}", 11);
            fault("fun f(){assert(1<" + blank + "=2);}", 17 + blank.length());
            fault("fun f(){assert(1>" + blank + "=2);}", 17 + blank.length());
            fault("fun f(){assert(1=" + blank + "=2);}", 16);
            fault("fun f(){assert(1!" + blank + "=2);}", 16);
            fault("fun f(){assert(1<2&" + blank + "&3<4);}", 18);
            fault("fun f(){assert(1<2|" + blank + "|3<4);}", 18);
        }
        fault("funf(){}", 0);
        fault("fun f(){returnx;}", 15);
        fault("fun f(){return x;}", -1);
        fault("fun f(){varx;}", 12);
        fault("fun f(){x=1+2;}", -1);
    }

    private static void remarkEndsAtByte10() {
        CHECKS.sentence("remarks: from // up to the next byte 10");
        for (int b = 0; b < 256; b++) {
            fault("fun f(){//" + (char) b + "}", b == 10 ? -1 : 12);
            fault("fun f(){// " + (char) b + " }\n}", b == 10 ? 15 : -1);
        }
        fault("fun f(){//\n}", -1);
        fault("fun f(){//\r}", 12);
        fault("fun f(){//\r\n}", -1);
        fault("fun f(){//}\n//}\n}", -1);
        fault("fun f(){// // }\n}", -1);
        fault("fun f(){// \n // }\n}", -1);
        fault("fun f(){//" + Checks.repeat("}", 7988) + "\n}", -1);
    }

    private static void remarkEndsAtTheEnd() {
        CHECKS.sentence("remarks: from // up to .. the end");
        fault("fun f(){}//", -1);
        fault("fun f(){}// fun", -1);
        fault("fun f(){}//" + Checks.repeat("x", 7989), -1);
        fault("//", 2);
        fault("//\n", 3);
        fault("// fun f(){}", 12);
        fault("fun f(){//", 10);
        fault("fun f(){// }", 12);
    }

    private static void remarkNeedsTwoSlashes() {
        CHECKS.sentence("remarks: from //");
        fault("/", 0);
        fault("fun f(){}/", 9);
        fault("fun f(){}/ /", 9);
        fault("fun f(){}/\n/", 9);
        fault("fun f(){}///", -1);
        fault("fun f(){}////", -1);
        fault("fun f(){x=6/2;}", -1);
        fault("fun f(){x=6//2;}", 16);
        fault("fun f(){x=6//2;}\n;}", -1);
        fault("fun f(){x=6///2;}\n/2;}", -1);
        fault("fun f(){x=6/ /2;}", 13);
        fault("fun f(){x=6/", 12);
        fault("fun f(){x=6/*2*/;}", 12);
        fault("fun f(){x=6\\\\2;}", 11);
    }

    private static void remarkIsBlank() {
        CHECKS.sentence("BLANKS are .. remarks");
        fault("//\nfun//x\nf//fun\n(//)\n)//\n{////\n}//", -1);
        fault("//\n//\n//\n\nfun f(){}", -1);
        fault("fun f(){x=//\n-//\n1//\n;}", -1);
        fault("fun f(){x=g//(\n(1);}", -1);
        fault("fun f(){}// \200\377\0 ;\n", -1);
        Sitting reader = new Sitting();
        Checks.readText(reader, 0, "//a\nfun//b\nf(//c\n){//d\n}");
        CHECKS.equal("places behind remarks", Checks.treeText(reader, 0, 0), "0@-1(1@4(13@11 2@18))");
        CHECKS.equal("no names in remarks", reader.names(), 1);
    }

    private static void remarkCutByRead() {
        CHECKS.sentence("The first n bytes .. are read");
        cut("fun f(){}//}", 9, -1);
        cut("fun f(){}//}", 10, 9);
        cut("fun f(){}//}", 11, -1);
        cut("fun f(){//\n}", 9, 8);
        cut("fun f(){//\n}", 10, 10);
        cut("fun f(){//\n}", 11, 11);
        cut("fun f(){//\n}", 12, -1);
    }

    private static void cut(String text, int n, int due) {
        Sitting reader = new Sitting();
        Checks.feedText(reader, text);
        CHECKS.equal("fault of the first " + n + " of " + text, reader.read(0, n), due);
    }

    private static void fault(String text, int due) {
        CHECKS.equal("fault of " + text, Checks.fault(text), due);
    }
}
