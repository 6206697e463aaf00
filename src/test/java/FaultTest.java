/** Terms: THE FAULT lies at the first of four things; here each alone, each before each other, and the end. */
public final class FaultTest {
    private static final Checks CHECKS = new Checks("the fault");

    // Fifty-nine of these in a SUM of a function's BLOCK: what stands behind them is 61 deep.
    private static final String DEEP = Checks.repeat("-", 59);

    public static void main(String[] args) {
        noFault();
        emptyText();
        endOfText();
        endBehindBlanks();
        endWithinToken();
        wrongToken();
        ofAnyDepth();
        noToken();
        tooDeep();
        theFirstOfThese();
        nothingBehindCounts();
        functionsBefore();
        CHECKS.end();
    }

    private static void noFault() {
        CHECKS.sentence("Answers the place of the fault, or NONE");
        fault("fun f(){}", -1);
        fault("fun f(){x=" + Checks.repeat("-", 58) + "1;}", -1);
        fault("fun f(){}fun g(a,b){x=a;}", -1);
    }

    private static void emptyText() {
        CHECKS.sentence("A text of no bytes has its fault at 0");
        Sitting reader = new Sitting();
        CHECKS.equal("nothing fed, all", reader.read(0, -1), 0);
        CHECKS.equal("nothing fed, 0", reader.read(1, 0), 0);
        Checks.feedText(reader, "fun f(){}");
        CHECKS.equal("none of the fed ones", reader.read(0, 0), 0);
        CHECKS.equal("a TEXT alone", Checks.treeText(reader, 0, 0), "0@-1");
        CHECKS.equal("a text", Checks.readText(reader, 0, "fun f(){}"), -1);
        CHECKS.equal("in place of it", reader.read(0, -1), 0);
        CHECKS.equal("a TEXT alone", Checks.treeText(reader, 0, 0), "0@-1");
        CHECKS.equal("one byte", Checks.readText(reader, 0, "f"), 0);
        CHECKS.equal("one blank", Checks.readText(reader, 0, " "), 1);
    }

    private static void endOfText() {
        CHECKS.sentence("the end of the text");
        String text = "fun f ( a ) { if ( x < 1 ) { x = g ( 1 , a [ 2 ] ) ; } else { return - 1 ; } }";
        for (int n = 3; n < text.length(); n++) {
            fault(text.substring(0, n), n);
        }
        fault(text, -1);
        fault(text + " fun", text.length() + 4);
        fault("fun f(){}fun", 12);
        fault("fun f(){" + Checks.repeat("x=1;", 1998), 8000);
        fault("fun f(){" + Checks.repeat("x=1;", 1997) + "x=", 7998);
    }

    private static void endBehindBlanks() {
        CHECKS.sentence("the end of the text");
        fault("   ", 3);
        fault(" \n\r\t", 4);
        fault("fun f(){  ", 10);
        fault("fun f(){ // }", 13);
        fault("fun f(){ //\n", 12);
        fault("fun f(){ //\n ", 13);
        fault("fun f(){}fun  //", 16);
        fault(Checks.repeat(" ", 8000), 8000);
    }

    // A token that ends with the text is that token, though more of it might have come.
    private static void endWithinToken() {
        CHECKS.sentence("a token with which no text .. goes on; .. the end of the text");
        fault("f", 0);
        fault("fu", 0);
        fault("fun", 3);
        fault("funn", 0);
        fault("fun f(){retur", 13);
        fault("fun f(){return", 14);
        fault("fun f(){x=1", 11);
        fault("fun f(){assert(1<", 17);
        fault("fun f(){assert(1=", 16);
        fault("fun f(){if(1<2){}els", 20);
        fault("fun f(){if(1<2){}else", 21);
    }

    private static void wrongToken() {
        CHECKS.sentence("a token with which no text .. goes on");
        fault("fun f(){x=1;;}", 12);
        fault("fun f(){x=1;}}", 13);
        fault("fun f(){x=1;}x", 13);
        fault("  fun f(){x=  )", 14);
        fault("fun f(){} 7", 10);
    }

    // A bracket or sign is no fault, though all that could stand behind it lies too deep.
    private static void ofAnyDepth() {
        CHECKS.sentence("a token with which no text, of any depth, goes on");
        String sum = "fun f(){x=" + Checks.repeat("-", 57);
        fault(sum + "-(1);}", sum.length() + 2);
        fault(sum + "-a[1];}", sum.length() + 3);
        fault(sum + "--1;}", sum.length() + 2);
        fault(sum + "-1;}", -1);
        fault(sum + "-(", sum.length() + 2);
        fault(sum + "-a[", sum.length() + 3);
        String condition = "fun f(){assert(" + Checks.repeat("!", 58);
        fault(condition + "[1<2]);}", condition.length() + 1);
        fault(condition + "!1<2);}", condition.length() + 1);
        fault(condition + "1<2);}", condition.length());
        String block = "fun f(){" + Checks.repeat("while(1<2){", 58);
        fault(block + "if(1<2){}", block.length() + 3);
        fault(block + "assert(!", block.length() + 8);
        fault(block + "x=g(-1);", block.length() + 5);
    }

    private static void noToken() {
        CHECKS.sentence("a byte at which there is no token (that of a NAME or NUMBER that is too long or too great, too)");
        fault("$", 0);
        fault("fun f(){x=1$;}", 11);
        fault("fun f(){x=$;}", 10);
        fault("fun f(){x=1;}$", 13);
        fault("fun f(){x=1+" + Checks.repeat("n", 31) + ";}", 12);
        fault("fun f(){x=1+2147483648;}", 12);
        fault("fun f(){x=1 2147483648;}", 12);
        fault("fun f(){x=1 " + Checks.repeat("n", 31) + ";}", 12);
        fault("fun f(){x=1+01;}", 12);
        fault("fun f(){x=1+1a;}", 12);
    }

    private static void tooDeep() {
        CHECKS.sentence("the first token of something that is 61 deep");
        fault("fun f(){x=" + DEEP + "1;}", 69);
        fault("fun f(){x=" + DEEP + "a[1];}", 69);
        fault("fun f(){x=" + DEEP + "(1);}", 69);
        fault("fun f(){x=" + DEEP + "-1;}", 69);
        fault("fun f(){x=" + DEEP + "any(1,2);}", 69);
        fault("fun f(){x=" + DEEP + " //\n 1;}", 74);
        fault("fun f(){x=" + DEEP + ");}", 69);
        fault("fun f(){x=" + DEEP + "$", 69);
        fault("fun f(){x=" + DEEP, 69);
        fault("fun f(){x=" + DEEP + "  ", 71);
    }

    private static void theFirstOfThese() {
        CHECKS.sentence("THE FAULT lies at the first one of these");
        fault("fun f(){x=1 2;x=$;x=" + DEEP + "1;", 12);
        fault("fun f(){x=$;x=1 2;x=" + DEEP + "1;", 10);
        fault("fun f(){x=" + DEEP + "1;x=1 2;x=$;", 69);
        fault("fun f(){x=" + DEEP + "1$", 69);
        fault("fun f(){x=" + DEEP + "1 2", 69);
        fault("fun f(){x=1 $ 2", 12);
        fault("fun f(){x=1 2 $", 12);
        fault("fun f(){x=1 2", 12);
        fault("fun f(){x=$", 10);
        fault("fun f(){x=1$" + DEEP + "1", 11);
        fault("fun f(){x=-$" + DEEP + "1", 11);
        fault("fun f(){x=1)" + DEEP + "1", 11);
        fault("fun f(){x=1;$x=1", 12);
    }

    private static void nothingBehindCounts() {
        CHECKS.sentence("what stands behind it is not read");
        fault("fun f(){x=1 2;}", 12);
        fault("fun f(){x=1 2;}fun g(){}", 12);
        fault("fun f(){x=1 2;}fun g(){x=3 4;}", 12);
        fault("fun f(){x=1 " + Checks.repeat("n", 31), 12);
        fault("fun f(){x=1 $$$$", 12);
        Sitting reader = new Sitting();
        Checks.readText(reader, 0, "fun f(){x=1 2;}fun g(){}");
        CHECKS.equal("no function behind it", reader.nodes(0), 1);
        CHECKS.equal("no name behind it", reader.names(), 0);
    }

    private static void functionsBefore() {
        CHECKS.sentence("A text with a fault has the FUNCTIONs before the one with it");
        kept("fun f(){x=1 2;}", 12, "");
        kept("fun f(){}x", 9, "fun f(){}");
        kept("fun f(){}$", 9, "fun f(){}");
        kept("fun f(){}fun", 12, "fun f(){}");
        kept("fun f(){}fun g", 14, "fun f(){}");
        kept("fun f(){}fun g(){", 17, "fun f(){}");
        kept("fun f(){}fun g(){}", -1, "fun f(){}fun g(){}");
        kept("fun f(){}fun g(){}}", 18, "fun f(){}fun g(){}");
        kept("fun f(){}fun g(){;}fun h(){}", 17, "fun f(){}");
        kept("fun f(){}fun g(){x=" + DEEP + "1;}fun h(){}", 78, "fun f(){}");
        kept("fun f(){}fun g(" + Checks.repeat("n", 31) + "){}", 15, "fun f(){}");
        kept(Checks.repeat("fun f(){}", 888) + "fun f", 7997, Checks.repeat("fun f(){}", 888));
    }

    private static void kept(String text, int due, String written) {
        Sitting reader = new Sitting();
        CHECKS.equal("text before", Checks.readText(reader, 1, "fun a(){b=c;}"), -1);
        int fault = Checks.readText(reader, 1, text);
        CHECKS.equal("fault of " + text, fault, due);
        CHECKS.equal("kept of " + text, Checks.writeText(reader, 1, 0), written);
    }

    private static void fault(String text, int due) {
        CHECKS.equal("fault of " + text, Checks.fault(text), due);
    }
}
