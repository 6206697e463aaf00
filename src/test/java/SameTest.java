/** Promise 13: same tells trees apart by all but their places. */
public final class SameTest {
    private static final Checks CHECKS = new Checks("same");

    public static void main(String[] args) {
        newTrees();
        butForPlaces();
        kinds();
        values();
        parts();
        functions();
        CHECKS.end();
    }

    private static void newTrees() {
        CHECKS.sentence("Whether both trees are the same");
        CHECKS.equal("of a new object", new Sitting().same(), true);
        Sitting reader = new Sitting();
        Checks.readText(reader, 0, "fun f(){x=1;}");
        CHECKS.equal("one read", reader.same(), false);
        Checks.readText(reader, 1, "fun f(){x=1;}");
        CHECKS.equal("both read", reader.same(), true);
        Checks.feedText(reader, "fun g(){}");
        CHECKS.equal("fed since", reader.same(), true);
        reader.write(0, 4);
        CHECKS.equal("written since", reader.same(), true);
        CHECKS.equal("a refused read", reader.read(0, 99), -2);
        CHECKS.equal("refused since", reader.same(), true);
        CHECKS.equal("a read of no bytes", reader.read(1, 0), 0);
        CHECKS.equal("one tree without functions", reader.same(), false);
        CHECKS.equal("a fault", Checks.readText(reader, 0, "fun f(){x=;}"), 10);
        CHECKS.equal("both without functions", reader.same(), true);
    }

    private static void butForPlaces() {
        CHECKS.sentence("the same, but for places");
        same("fun f(){}", " fun f ( ) { // x\n } ", true);
        same("fun f(){x=(1)+(2*3);}", "fun f(){x=1+2*3;}", true);
        same("fun f(){assert([1<2]);}", "fun f(){assert(1<2);}", true);
        same("fun f(){g(((a[(1)])));}", "fun f(){g(a[1]);}", true);
        same("fun f(){x=any(-0,1);}", "fun f(){x=any(0,1);}", true);
        same("fun f(){x=any( - 5 , 1 );}", "fun f(){x=any(-5,1);}", true);
        String longest = "fun f(){x=1" + Checks.repeat("+a*a", 998) + ";}";
        same(longest, " " + longest, true);
        same(longest, longest.replace("a;", "b;"), false);
        same(longest, longest.replace("x=1", "x=2"), false);
    }

    private static void kinds() {
        CHECKS.sentence("Whether both trees are the same");
        same("fun f(){x=1+2;}", "fun f(){x=1-2;}", false);
        same("fun f(){x=1*2;}", "fun f(){x=1/2;}", false);
        same("fun f(){x=1*2;}", "fun f(){x=1%2;}", false);
        same("fun f(){x=1+2;}", "fun f(){x=1*2;}", false);
        String[] relations = {"<", "<=", ">", ">=", "==", "!="};
        for (String relation : relations) {
            for (String other : relations) {
                same("fun f(){assert(1" + relation + "2);}", "fun f(){assert(1" + other + "2);}",
                    relation.equals(other));
            }
        }
        same("fun f(){assert(1<2||3<4);}", "fun f(){assert(1<2&&3<4);}", false);
        same("fun f(){if(1<2){}}", "fun f(){while(1<2){}}", false);
        same("fun f(){var x=1;}", "fun f(){var x[1];}", false);
        same("fun f(){var x=1;}", "fun f(){x=1;}", false);
        // Nodes of the same values, one by one, but of other kinds.
        same("fun f(){x=f();}", "fun f(){x=f;}", false);
        same("fun f(){f();}", "fun f(){f=f;}", false);
        same("fun f(){x=0;}", "fun f(){x=f;}", false);
    }

    private static void values() {
        CHECKS.sentence("Whether both trees are the same");
        same("fun f(){}", "fun g(){}", false);
        same("fun f(){x=1;}", "fun f(){x=2;}", false);
        same("fun f(){x=0;}", "fun f(){x=2147483647;}", false);
        same("fun f(){x=a;}", "fun f(){x=b;}", false);
        same("fun f(){x=a;}", "fun f(){x=A;}", false);
        same("fun f(a,b){}", "fun f(b,a){}", false);
        same("fun f(){x=any(-1,1);}", "fun f(){x=any(1,1);}", false);
        same("fun f(){x=any(1,-1);}", "fun f(){x=any(1,1);}", false);
        same("fun f(){var x[1];}", "fun f(){var x[2];}", false);
    }

    private static void parts() {
        CHECKS.sentence("Whether both trees are the same");
        same("fun f(){x=(1+2)+3;}", "fun f(){x=1+(2+3);}", false);
        same("fun f(){x=(1+2)+3;}", "fun f(){x=1+2+3;}", false);
        same("fun f(){x=-1;}", "fun f(){x=--1;}", false);
        same("fun f(){var x;y=1;}", "fun f(){var x=y;}", false);
        same("fun f(){if(1<2){}}", "fun f(){if(1<2){}else{}}", false);
        same("fun f(a){}", "fun f(){}", false);
        // The same kinds and values one behind the other, but of other wholes.
        same("fun f(){g(any(1,2));}", "fun f(){g(any,1,2);}", false);
        same("fun f(){g(any(1,2),3);}", "fun f(){g(any,1,2,3);}", false);
        same("fun f(){if(1<2){x=1;}else{}}", "fun f(){if(1<2){}else{x=1;}}", false);
        same("fun f(){if(1<2){if(1<2){}x=1;}}", "fun f(){if(1<2){if(1<2){x=1;}}}", false);
        same("fun f(){while(1<2){}x();}", "fun f(){while(1<2){x();}}", false);
        same("fun f(){assert(1<2&&[3<4||5<6]);}", "fun f(){assert(1<2&&[[3<4]||5<6]);}", true);
    }

    private static void functions() {
        CHECKS.sentence("A text with a fault has the FUNCTIONs before the one with it");
        same("", "", true);
        same("", "fun f(){x=;}", true);
        same("fun f(){}fun g(){", "fun f(){}", true);
        same("fun f(){}", "", false);
        same("fun f(){}", "fun f(){}fun f(){}", false);
        same("fun f(){}fun g(){}", "fun g(){}fun f(){}", false);
    }

    private static void same(String first, String second, boolean due) {
        for (int turn = 0; turn < 2; turn++) {
            Sitting reader = new Sitting();
            Checks.readText(reader, turn, first);
            Checks.readText(reader, 1 - turn, second);
            CHECKS.equal(first + " and " + second, reader.same(), due);
            CHECKS.equal("asked again", reader.same(), due);
        }
    }
}
