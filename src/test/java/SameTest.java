/** Promise 13: same tells trees apart by all but their places. */
public final class SameTest {
    private static final Checks CHECKS = new Checks("same");

    public static void main(String[] args) {
        same("fun f(){}", " fun f ( ) { // x\n } ", true);
        same("fun f(){x=(1)+(2*3);}", "fun f(){x=1+2*3;}", true);
        same("fun f(){assert([1<2]);}", "fun f(){assert(1<2);}", true);
        same("fun f(){x=any(-0,1);}", "fun f(){x=any(0,1);}", true);
        same("fun f(){}fun g(){", "fun f(){}", true);
        same("", "fun f(){x=;}", true);
        same("fun f(){}", "", false);
        same("fun f(){}", "fun g(){}", false);
        same("fun f(){}", "fun f(){}fun f(){}", false);
        same("fun f(){x=1;}", "fun f(){x=2;}", false);
        same("fun f(){x=a;}", "fun f(){x=b;}", false);
        same("fun f(){x=1+2;}", "fun f(){x=1-2;}", false);
        same("fun f(){x=1*2;}", "fun f(){x=1/2;}", false);
        same("fun f(){x=(1+2)+3;}", "fun f(){x=1+(2+3);}", false);
        same("fun f(){x=any(-1,1);}", "fun f(){x=any(1,1);}", false);
        same("fun f(){x=-1;}", "fun f(){x=--1;}", false);
        same("fun f(){assert(1<2);}", "fun f(){assert(1<=2);}", false);
        same("fun f(){var x;y=1;}", "fun f(){var x=y;}", false);
        same("fun f(){if(1<2){x=1;}else{}}", "fun f(){if(1<2){}else{x=1;}}", false);
        same("fun f(){if(1<2){if(1<2){}x=1;}}", "fun f(){if(1<2){if(1<2){x=1;}}}", false);
        same("fun f(){while(1<2){}x();}", "fun f(){while(1<2){x();}}", false);
        same("fun f(){if(1<2){}}", "fun f(){while(1<2){}}", false);
        CHECKS.end();
    }

    private static void same(String first, String second, boolean due) {
        for (int turn = 0; turn < 2; turn++) {
            ProgramReader reader = new ProgramReader();
            Checks.readText(reader, turn, first);
            Checks.readText(reader, 1 - turn, second);
            CHECKS.equal(first + " and " + second, reader.same() ? 1 : 0, due ? 1 : 0);
            CHECKS.equal("asked again", reader.same() ? 1 : 0, due ? 1 : 0);
        }
    }
}
