/** Promises 4 to 7: nodes, node, part and whole, for every kind with its places, values and parts. */
public final class TreeTest {
    private static final Checks CHECKS = new Checks("trees");

    public static void main(String[] args) {
        functions();
        statements();
        sums();
        conditions();
        numbersOfNodes();
        noSuchThing();
        replaced();
        CHECKS.end();
    }

    private static void functions() {
        tree("fun f(){}", "0@-1(1@0(13@4 2@7))");
        tree(" fun f ( a , b,f ) { } ", "0@-1(1@1(13@5 13@9=1 13@13=2 13@15 2@19))");
        tree("fun f(){}\nfun g(){}", "0@-1(1@0(13@4 2@7) 1@10(13@14=1 2@17))");
        tree("fun f(){", "0@-1");
        tree("", "0@-1");
    }

    // The statement stands at place 8, in the block of node 3; f has the number 0.
    private static void statements() {
        inBlock("var x;", "3@8(13@12=1)");
        inBlock("var x = 7;", "3@8(13@12=1 12@16=7)");
        inBlock("var x = a - 1;", "3@8(13@12=1 17@16(13@16=2 19@18(12@20=1)))");
        inBlock("var x [ 70 ];", "4@8(13@12=1 12@16=70)");
        inBlock("var x[0];", "4@8(13@12=1 12@14)");
        inBlock("x = (y);", "5@8(13@8=1 13@13=2)");
        inBlock("x[y] = f;", "6@8(13@8=1 13@10=2 13@15)");
        inBlock("x[(y)] = -1;", "6@8(13@8=1 13@11=2 15@17(12@18=1))");
        inBlock("x = y();", "7@8(13@8=1 13@12=2)");
        inBlock("x = y(x, 2);", "7@8(13@8=1 13@12=2 13@14=1 12@17=2)");
        inBlock("f();", "7@8(33@8 13@8)");
        inBlock(" f ( 1 , (f) );", "7@9(33@9 13@9 12@13=1 13@18)");
        inBlock("if(x<1){}", "8@8(27@11(13@11=1 12@13=1) 2@15)");
        inBlock("if ( x<1 ) { } else { f(); }",
            "8@8(27@13(13@13=1 12@15=1) 2@19 2@28(7@30(33@30 13@30)))");
        inBlock("while ( 1<2 ) { var y; }",
            "9@8(27@16(12@16=1 12@18=2) 2@22(3@24(13@28=1)))");
        inBlock("assert ( 1<2 );", "10@8(27@17(12@17=1 12@19=2))");
        inBlock("return ( 5 );", "11@8(12@17=5)");
        inBlock("var x;f();", "3@8(13@12=1) 7@14(33@14 13@14)");
    }

    // The sum stands at place 15, behind return.
    private static void sums() {
        sum("2147483647", "12@15=2147483647");
        sum("f", "13@15");
        sum("a[b]", "14@15(13@15=1 13@17=2)");
        sum("a [ 1 + 2 ]", "14@15(13@15=1 17@19(12@19=1 18@21(12@23=2)))");
        sum("- -a", "15@15(15@17(13@18=1))");
        sum("-((a))", "15@15(13@18=1)");
        sum("((a))", "13@17=1");
        sum("any", "16@15");
        sum("any ( -5 , 5 )", "16@15(12@21=-5 12@26=5)");
        sum("any(- 2147483647,-0)", "16@15(12@19=-2147483647 12@32)");
        sum("any(-2,-1)", "16@15(12@19=-2 12@22=-1)");
        sum("(any)-any", "17@16(16@16 19@20(16@21))");
        sum("1+2", "17@15(12@15=1 18@16(12@17=2))");
        sum("1-2+3", "17@15(12@15=1 19@16(12@17=2) 18@18(12@19=3))");
        sum("(1-2)+3", "17@16(17@16(12@16=1 19@17(12@18=2)) 18@20(12@21=3))");
        sum("1-(2+3)", "17@15(12@15=1 19@16(17@18(12@18=2 18@19(12@20=3))))");
        sum("1*2/3%4", "20@15(12@15=1 21@16(12@17=2) 22@18(12@19=3) 23@20(12@21=4))");
        sum("(1*2)*3", "20@16(20@16(12@16=1 21@17(12@18=2)) 21@20(12@21=3))");
        sum("1*(2*3)", "20@15(12@15=1 21@16(20@18(12@18=2 21@19(12@20=3))))");
        sum("1+2*3", "17@15(12@15=1 18@16(20@17(12@17=2 21@18(12@19=3))))");
        sum("(1+2)*3", "20@16(17@16(12@16=1 18@17(12@18=2)) 21@20(12@21=3))");
        sum("((1)+2)*3+4", "17@17(20@17(17@17(12@17=1 18@19(12@20=2)) 21@22(12@23=3)) 18@24(12@25=4))");
        sum("-1*2", "20@15(15@15(12@16=1) 21@17(12@18=2))");
        sum("-(1*2)", "15@15(20@17(12@17=1 21@18(12@19=2)))");
        sum("1- -2", "17@15(12@15=1 19@16(15@18(12@19=2)))");
    }

    // The condition stands at place 15, behind assert and its bracket.
    private static void conditions() {
        String[] relations = {"<", "<=", ">", ">=", "==", "!="};
        for (int i = 0; i < relations.length; i++) {
            int second = 16 + relations[i].length();
            condition("1" + relations[i] + "2", (27 + i) + "@15(12@15=1 12@" + second + "=2)");
        }
        condition("(1)<(2)", "27@16(12@16=1 12@20=2)");
        condition("[[1<2]]", "27@17(12@17=1 12@19=2)");
        condition("1+2<3", "27@15(17@15(12@15=1 18@16(12@17=2)) 12@19=3)");
        condition("1<2||3>4", "24@15(27@15(12@15=1 12@17=2) 29@20(12@20=3 12@22=4))");
        condition("1<2&&3>4", "25@15(27@15(12@15=1 12@17=2) 29@20(12@20=3 12@22=4))");
        condition("1<1||2<2&&3<3||4<4", "24@15(27@15(12@15=1 12@17=1) "
            + "25@20(27@20(12@20=2 12@22=2) 27@25(12@25=3 12@27=3)) 27@30(12@30=4 12@32=4))");
        condition("[1<1||2<2]&&3<3", "25@16(24@16(27@16(12@16=1 12@18=1) 27@21(12@21=2 12@23=2)) "
            + "27@27(12@27=3 12@29=3))");
        condition("[1<1&&2<2]&&3<3", "25@16(25@16(27@16(12@16=1 12@18=1) 27@21(12@21=2 12@23=2)) "
            + "27@27(12@27=3 12@29=3))");
        condition("! !1<2", "26@15(26@17(27@18(12@18=1 12@20=2)))");
        condition("![1<2]", "26@15(27@17(12@17=1 12@19=2))");
        condition("!1<1&&2<2", "25@15(26@15(27@16(12@16=1 12@18=1)) 27@21(12@21=2 12@23=2))");
    }

    private static void numbersOfNodes() {
        ProgramReader reader = new ProgramReader();
        Checks.readText(reader, 1, "fun f(a){a=1+a;}fun g(){f(a);}");
        // 0 text, 1 fun, 2 f, 3 a, 4 block, 5 set, 6 a, 7 sum, 8 1, 9 +, 10 a,
        // 11 fun, 12 g, 13 block, 14 call, 15 nothing, 16 f, 17 a
        int[] sizes = {18, 10, 1, 1, 7, 6, 1, 4, 1, 2, 1, 7, 1, 5, 4, 1, 1, 1};
        int[] wholes = {-1, 0, 1, 1, 1, 4, 5, 5, 7, 7, 9, 0, 11, 11, 13, 14, 14, 14};
        int[][] parts = {{1, 11}, {2, 3, 4}, {}, {}, {5}, {6, 7}, {}, {8, 9}, {}, {10}, {},
            {12, 13}, {}, {14}, {15, 16, 17}, {}, {}, {}};
        CHECKS.equal("nodes", reader.nodes(1), 18);
        for (int k = 0; k < sizes.length; k++) {
            CHECKS.equal("size of " + k, reader.node(1, k, 3), sizes[k]);
            CHECKS.equal("whole of " + k, reader.whole(1, k), wholes[k]);
            CHECKS.equal("parts of " + k, reader.node(1, k, 4), parts[k].length);
            for (int i = 0; i < parts[k].length; i++) {
                CHECKS.equal("part " + i + " of " + k, reader.part(1, k, i), parts[k][i]);
            }
            CHECKS.equal("part -1 of " + k, reader.part(1, k, -1), -1);
            CHECKS.equal("part behind the last of " + k, reader.part(1, k, parts[k].length), -1);
        }
    }

    private static void noSuchThing() {
        ProgramReader reader = new ProgramReader();
        Checks.readText(reader, 0, "fun f(){}");
        int[] noTrees = {-1, 2, 3, Integer.MIN_VALUE, Integer.MAX_VALUE};
        for (int tree : noTrees) {
            CHECKS.equal("nodes", reader.nodes(tree), 0);
            CHECKS.equal("node", reader.node(tree, 0, 0), -2);
            CHECKS.equal("part", reader.part(tree, 0, 0), -1);
            CHECKS.equal("whole", reader.whole(tree, 1), -1);
        }
        int[] noNodes = {-1, 4, 5, Integer.MIN_VALUE, Integer.MAX_VALUE};
        for (int k : noNodes) {
            for (int what = -1; what <= 5; what++) {
                CHECKS.equal("node", reader.node(0, k, what), -2);
            }
            CHECKS.equal("part", reader.part(0, k, 0), -1);
            CHECKS.equal("whole", reader.whole(0, k), -1);
        }
        int[] noWhats = {-1, -2, 5, 6, Integer.MIN_VALUE, Integer.MAX_VALUE};
        for (int what : noWhats) {
            CHECKS.equal("what " + what, reader.node(0, 1, what), -2);
        }
        CHECKS.equal("part far behind", reader.part(0, 0, Integer.MAX_VALUE), -1);
        CHECKS.equal("part far before", reader.part(0, 0, Integer.MIN_VALUE), -1);
        CHECKS.equal("node of the other tree", reader.node(1, 1, 0), -2);
    }

    // A shorter text must leave nothing of a longer one behind.
    private static void replaced() {
        ProgramReader reader = new ProgramReader();
        Checks.readText(reader, 0, "fun f(){x=1+2+3;if(1<2){x=a*b*c;}}");
        Checks.readText(reader, 1, "fun g(x){return x;}");
        Checks.readText(reader, 0, "fun f(){}");
        CHECKS.equal("nodes", reader.nodes(0), 4);
        CHECKS.equal("node 4", reader.node(0, 4, 0), -2);
        CHECKS.equal("tree", Checks.treeText(reader, 0, 0), "0@-1(1@0(13@4 2@7))");
        CHECKS.equal("the other one", Checks.treeText(reader, 1, 0),
            "0@-1(1@0(13@4=5 13@6=1 2@8(11@9(13@16=1))))");
        Checks.readText(reader, 0, "fun");
        CHECKS.equal("nodes", reader.nodes(0), 1);
        CHECKS.equal("parts", reader.node(0, 0, 4), 0);
    }

    private static void inBlock(String statement, String due) {
        String text = "fun f(){" + statement + "}";
        tree(text, "0@-1(1@0(13@4 2@7(" + due + ")))");
    }

    private static void sum(String sum, String due) {
        inBlock("return " + sum + ";", "11@8(" + due + ")");
    }

    private static void condition(String condition, String due) {
        inBlock("assert(" + condition + ");", "10@8(" + due + ")");
    }

    private static void tree(String text, String due) {
        ProgramReader reader = new ProgramReader();
        Checks.readText(reader, 1, text);
        CHECKS.equal(text, Checks.treeText(reader, 1, 0), due);
    }
}
