/** Terms, TREES, and promises 4 to 7: every kind with its place, value and parts, and what there is not. */
public final class TreeTest {
    private static final Checks CHECKS = new Checks("trees");
    private static final int[] NO_TREES = {-1, -2, 2, 3, 256, Integer.MIN_VALUE, Integer.MAX_VALUE};

    public static void main(String[] args) {
        functions();
        statements();
        sums();
        conditions();
        placesOfBrackets();
        placesOfSigns();
        placeOfNothing();
        values();
        partsOfEachKind();
        numbersOfNodes();
        largestTree();
        nodesOfNoTree();
        noSuchNode();
        noSuchWhat();
        noSuchPart();
        noSuchWhole();
        CHECKS.end();
    }

    private static void functions() {
        CHECKS.sentence("0 a TEXT: FUNCTIONs. 1 a FUNCTION: a NAME, the NAMEs in brackets, a BLOCK. 2 a BLOCK: STATEMENTs");
        tree("fun f(){}", "0@-1(1@0(13@4 2@7))");
        tree(" fun f ( a , b,f ) { } ", "0@-1(1@1(13@5 13@9=1 13@13=2 13@15 2@19))");
        tree("fun f(){}\nfun g(){}", "0@-1(1@0(13@4 2@7) 1@10(13@14=1 2@17))");
        tree("fun f(){", "0@-1");
        tree("", "0@-1");
    }

    // The statement stands at place 8, in the block of node 3; f has the number 0.
    private static void statements() {
        CHECKS.sentence("3 var NAME .. 11 return");
        inBlock("var x;", "3@8(13@12=1)");
        inBlock("var x = 7;", "3@8(13@12=1 12@16=7)");
        inBlock("var x = a - 1;", "3@8(13@12=1 17@16(13@16=2 19@18(12@20=1)))");
        inBlock("var x [ 70 ];", "4@8(13@12=1 12@16=70)");
        inBlock("var x[0];", "4@8(13@12=1 12@14)");
        inBlock("x = (y);", "5@8(13@8=1 13@13=2)");
        inBlock("x[y] = f;", "6@8(13@8=1 13@10=2 13@15)");
        inBlock("x[(y)] = -1;", "6@8(13@8=1 13@11=2 15@17(12@18=1))");
        inBlock("x = y();", "7@8(13@8=1 13@12=2)");
        inBlock("x = y(x, 2);", "7@8(13@8=1 13@12=2 13@14=1 12@17=2)");
        inBlock("f();", "7@8(33@8 13@8)");
        inBlock(" f ( 1 , (f) );", "7@9(33@9 13@9 12@13=1 13@18)");
        inBlock("if(x<1){}", "8@8(27@11(13@11=1 12@13=1) 2@15)");
        inBlock("if ( x<1 ) { } else { f(); }",
            "8@8(27@13(13@13=1 12@15=1) 2@19 2@28(7@30(33@30 13@30)))");
        inBlock("while ( 1<2 ) { var y; }",
            "9@8(27@16(12@16=1 12@18=2) 2@22(3@24(13@28=1)))");
        inBlock("assert ( 1<2 );", "10@8(27@17(12@17=1 12@19=2))");
        inBlock("return ( 5 );", "11@8(12@17=5)");
        inBlock("var x;f();", "3@8(13@12=1) 7@14(33@14 13@14)");
    }

    // The sum stands at place 15, behind return.
    private static void sums() {
        CHECKS.sentence("12 a NUMBER .. 23 for %");
        sum("2147483647", "12@15=2147483647");
        sum("f", "13@15");
        sum("a[b]", "14@15(13@15=1 13@17=2)");
        sum("a [ 1 + 2 ]", "14@15(13@15=1 17@19(12@19=1 18@21(12@23=2)))");
        sum("- -a", "15@15(15@17(13@18=1))");
        sum("-((a))", "15@15(13@18=1)");
        sum("((a))", "13@17=1");
        sum("any", "16@15");
        sum("any ( -5 , 5 )", "16@15(12@21=-5 12@26=5)");
        sum("any(- 2147483647,-0)", "16@15(12@19=-2147483647 12@32)");
        sum("any(-2,-1)", "16@15(12@19=-2 12@22=-1)");
        sum("(any)-any", "17@16(16@16 19@20(16@21))");
        sum("1+2", "17@15(12@15=1 18@16(12@17=2))");
        sum("1-2+3", "17@15(12@15=1 19@16(12@17=2) 18@18(12@19=3))");
        sum("(1-2)+3", "17@16(17@16(12@16=1 19@17(12@18=2)) 18@20(12@21=3))");
        sum("1-(2+3)", "17@15(12@15=1 19@16(17@18(12@18=2 18@19(12@20=3))))");
        sum("1*2/3%4", "20@15(12@15=1 21@16(12@17=2) 22@18(12@19=3) 23@20(12@21=4))");
        sum("(1*2)*3", "20@16(20@16(12@16=1 21@17(12@18=2)) 21@20(12@21=3))");
        sum("1*(2*3)", "20@15(12@15=1 21@16(20@18(12@18=2 21@19(12@20=3))))");
        sum("1+2*3", "17@15(12@15=1 18@16(20@17(12@17=2 21@18(12@19=3))))");
        sum("(1+2)*3", "20@16(17@16(12@16=1 18@17(12@18=2)) 21@20(12@21=3))");
        sum("((1)+2)*3+4", "17@17(20@17(17@17(12@17=1 18@19(12@20=2)) 21@22(12@23=3)) 18@24(12@25=4))");
        sum("-1*2", "20@15(15@15(12@16=1) 21@17(12@18=2))");
        sum("-(1*2)", "15@15(20@17(12@17=1 21@18(12@19=2)))");
        sum("1- -2", "17@15(12@15=1 19@16(15@18(12@19=2)))");
    }

    // The condition stands at place 15, behind assert and its bracket.
    private static void conditions() {
        CHECKS.sentence("24 a COND .. 32");
        String[] relations = {"<", "<=", ">", ">=", "==", "!="};
        for (int i = 0; i < relations.length; i++) {
            int second = 16 + relations[i].length();
            condition("1" + relations[i] + "2", (27 + i) + "@15(12@15=1 12@" + second + "=2)");
        }
        condition("(1)<(2)", "27@16(12@16=1 12@20=2)");
        condition("[[1<2]]", "27@17(12@17=1 12@19=2)");
        condition("1+2<3", "27@15(17@15(12@15=1 18@16(12@17=2)) 12@19=3)");
        condition("1<2||3>4", "24@15(27@15(12@15=1 12@17=2) 29@20(12@20=3 12@22=4))");
        condition("1<2&&3>4", "25@15(27@15(12@15=1 12@17=2) 29@20(12@20=3 12@22=4))");
        condition("1<1||2<2&&3<3||4<4", "24@15(27@15(12@15=1 12@17=1) "
            + "25@20(27@20(12@20=2 12@22=2) 27@25(12@25=3 12@27=3)) 27@30(12@30=4 12@32=4))");
        condition("[1<1||2<2]&&3<3", "25@16(24@16(27@16(12@16=1 12@18=1) 27@21(12@21=2 12@23=2)) "
            + "27@27(12@27=3 12@29=3))");
        condition("[1<1&&2<2]&&3<3", "25@16(25@16(27@16(12@16=1 12@18=1) 27@21(12@21=2 12@23=2)) "
            + "27@27(12@27=3 12@29=3))");
        condition("! !1<2", "26@15(26@17(27@18(12@18=1 12@20=2)))");
        condition("![1<2]", "26@15(27@17(12@17=1 12@19=2))");
        condition("!1<1&&2<2", "25@15(26@15(27@16(12@16=1 12@18=1)) 27@21(12@21=2 12@23=2))");
    }

    private static void placesOfBrackets() {
        CHECKS.sentence("a PLACE, that of its first token (of the TEXT NONE; of what is in brackets, that of what is in them");
        tree("  fun f(){}", "0@-1(1@2(13@6 2@9))");
        sum("(1)", "12@16=1");
        sum("( ( 1 ) )", "12@19=1");
        sum("(f[1])", "14@16(13@16 12@18=1)");
        sum("(-1)", "15@16(12@17=1)");
        sum("-(1)", "15@15(12@17=1)");
        sum("(any(1,2))", "16@16(12@20=1 12@22=2)");
        sum("any(- 1,-2)", "16@15(12@19=-1 12@23=-2)");
        sum("(1+2)", "17@16(12@16=1 18@17(12@18=2))");
        sum("(1*2)", "20@16(12@16=1 21@17(12@18=2))");
        condition("[1<2]", "27@16(12@16=1 12@18=2)");
        condition("[ [ 1<2 ] ]", "27@19(12@19=1 12@21=2)");
        condition("[!1<2]", "26@16(27@17(12@17=1 12@19=2))");
        condition("[1<2||3<4]", "24@16(27@16(12@16=1 12@18=2) 27@21(12@21=3 12@23=4))");
        CHECKS.sentence("of a sum, product or relation, or || and &&, that of its first part");
        sum("(1)+2", "17@16(12@16=1 18@18(12@19=2))");
        sum("((1))*2", "20@17(12@17=1 21@20(12@21=2))");
        sum("((1)*2)+3", "17@17(20@17(12@17=1 21@19(12@20=2)) 18@22(12@23=3))");
        sum("(-1)+2", "17@16(15@16(12@17=1) 18@19(12@20=2))");
        condition("(1)<2", "27@16(12@16=1 12@19=2)");
        condition("((1)+1)==2", "31@17(17@17(12@17=1 18@19(12@20=1)) 12@24=2)");
        condition("[1<2]||3<4", "24@16(27@16(12@16=1 12@18=2) 27@22(12@22=3 12@24=4))");
        condition("[(1)<2]&&3<4", "25@17(27@17(12@17=1 12@20=2) 27@24(12@24=3 12@26=4))");
        condition("![(1)<2]&&3<4", "25@15(26@15(27@18(12@18=1 12@21=2)) 27@25(12@25=3 12@27=4))");
    }

    private static void placesOfSigns() {
        CHECKS.sentence("18, 19 and 21 to 23 have the place of their sign");
        sum("1 +2", "17@15(12@15=1 18@17(12@18=2))");
        sum("1 - (2)", "17@15(12@15=1 19@17(12@20=2))");
        sum("1  *2", "20@15(12@15=1 21@18(12@19=2))");
        sum("1 / 2", "20@15(12@15=1 22@17(12@19=2))");
        sum("1//\n%2", "20@15(12@15=1 23@19(12@20=2))");
        sum("1+(2)*3", "17@15(12@15=1 18@16(20@18(12@18=2 21@20(12@21=3))))");
    }

    private static void placeOfNothing() {
        CHECKS.sentence("33 NOTHING, at the place of its whole");
        inBlock("  f();", "7@10(33@10 13@10)");
        inBlock("g ( 1 );", "7@8(33@8 13@8=1 12@12=1)");
        inBlock("x=1; //\n f();", "5@8(13@8=1 12@10=1) 7@17(33@17 13@17)");
    }

    private static void values() {
        CHECKS.sentence("value 0 but where told");
        Sitting reader = new Sitting();
        String text = "fun f(a){var b=a+a-a*a/a%a;var c[9];b=-any(-7,8);b[1]=c[2];b=f(3);f();if(1<2||3<=4&&!5>6){}"
            + "while(1>=2||1==2){assert(1!=2);}return a;}";
        CHECKS.equal(text, Checks.readText(reader, 0, text), -1);
        boolean[] seen = new boolean[34];
        for (int k = 0; k < reader.nodes(0); k++) {
            int kind = reader.node(0, k, 0);
            seen[kind] = true;
            if (kind != 12 && kind != 13) {
                CHECKS.equal("value of " + k + ", kind " + kind, reader.node(0, k, 2), 0);
            }
        }
        for (int kind = 0; kind < 34; kind++) {
            CHECKS.equal("kind " + kind + " stands there", seen[kind], true);
        }
        CHECKS.sentence("12 a NUMBER or LIMIT: value its number. 13 a NAME: value its own number");
        sum("0", "12@15");
        sum("7", "12@15=7");
        sum("any(-7,8)", "16@15(12@19=-7 12@22=8)");
        sum("any(-0,0)", "16@15(12@19 12@22)");
        sum("a+f+a", "17@15(13@15=1 18@16(13@17) 18@18(13@19=1))");
    }

    // Each kind with as few parts as it can have, one more, and several.
    private static void partsOfEachKind() {
        CHECKS.sentence("Kinds with their parts");
        parts("", 0, 0, 0);
        parts("fun f(){}", 0, 0, 1);
        parts("fun f(){}fun g(){}", 0, 0, 2);
        parts("fun f(){}fun g(){}fun h(){}", 0, 0, 3);
        parts("fun f(){}", 1, 1, 2);
        parts("fun f(a){}", 1, 1, 3);
        parts("fun f(a,b){}", 1, 1, 4);
        parts("fun f(){}", 3, 2, 0);
        parts("fun f(){f();}", 3, 2, 1);
        parts("fun f(){f();f();}", 3, 2, 2);
        parts("fun f(){var x;}", 4, 3, 1);
        parts("fun f(){var x=1;}", 4, 3, 2);
        parts("fun f(){var x[1];}", 4, 4, 2);
        parts("fun f(){x=1;}", 4, 5, 2);
        parts("fun f(){x[1]=2;}", 4, 6, 3);
        parts("fun f(){g();}", 4, 7, 2);
        parts("fun f(){g(1);}", 4, 7, 3);
        parts("fun f(){g(1,2);}", 4, 7, 4);
        parts("fun f(){x=g();}", 4, 7, 2);
        parts("fun f(){x=g(1);}", 4, 7, 3);
        parts("fun f(){x=g(1,2);}", 4, 7, 4);
        parts("fun f(){if(1<2){}}", 4, 8, 2);
        parts("fun f(){if(1<2){}else{}}", 4, 8, 3);
        parts("fun f(){while(1<2){}}", 4, 9, 2);
        parts("fun f(){assert(1<2);}", 4, 10, 1);
        parts("fun f(){return 1;}", 4, 11, 1);
        parts("fun f(){return 1;}", 5, 12, 0);
        parts("fun f(){return x;}", 5, 13, 0);
        parts("fun f(){return a[1];}", 5, 14, 2);
        parts("fun f(){return -1;}", 5, 15, 1);
        parts("fun f(){return any;}", 5, 16, 0);
        parts("fun f(){return any(1,2);}", 5, 16, 2);
        parts("fun f(){return 1+2;}", 5, 17, 2);
        parts("fun f(){return 1+2-3;}", 5, 17, 3);
        parts("fun f(){return 1+2;}", 7, 18, 1);
        parts("fun f(){return 1-2;}", 7, 19, 1);
        parts("fun f(){return 1*2;}", 5, 20, 2);
        parts("fun f(){return 1*2/3%4;}", 5, 20, 4);
        parts("fun f(){return 1*2;}", 7, 21, 1);
        parts("fun f(){return 1/2;}", 7, 22, 1);
        parts("fun f(){return 1%2;}", 7, 23, 1);
        parts("fun f(){assert(1<2||3<4);}", 5, 24, 2);
        parts("fun f(){assert(1<2||3<4||5<6);}", 5, 24, 3);
        parts("fun f(){assert(1<2&&3<4);}", 5, 25, 2);
        parts("fun f(){assert(1<2&&3<4&&5<6);}", 5, 25, 3);
        parts("fun f(){assert(!1<2);}", 5, 26, 1);
        parts("fun f(){assert(1<2);}", 5, 27, 2);
        parts("fun f(){assert(1<=2);}", 5, 28, 2);
        parts("fun f(){assert(1>2);}", 5, 29, 2);
        parts("fun f(){assert(1>=2);}", 5, 30, 2);
        parts("fun f(){assert(1==2);}", 5, 31, 2);
        parts("fun f(){assert(1!=2);}", 5, 32, 2);
        parts("fun f(){g();}", 5, 33, 0);
        CHECKS.sentence("Brackets leave nothing, and what consists of one thing alone is that");
        inBlock("return (((1)));", "11@8(12@18=1)");
        inBlock("return ((f[((1))]));", "11@8(14@17(13@17 12@21=1))");
        inBlock("assert([[[1<2]]]);", "10@8(27@18(12@18=1 12@20=2))");
        inBlock("g((1),(f));", "7@8(33@8 13@8=1 12@11=1 13@15)");
    }

    private static void parts(String text, int k, int kind, int due) {
        Sitting reader = new Sitting();
        Checks.readText(reader, 0, text);
        String what = " of node " + k + " of " + text;
        CHECKS.equal("kind" + what, reader.node(0, k, 0), kind);
        CHECKS.equal("parts" + what, reader.node(0, k, 4), due);
        int next = k + 1;
        for (int i = 0; i < due; i++) {
            CHECKS.equal("part " + i + what, reader.part(0, k, i), next);
            CHECKS.equal("whole of part " + i + what, reader.whole(0, next), k);
            next += reader.node(0, next, 3);
        }
        CHECKS.equal("size" + what, reader.node(0, k, 3), next - k);
        CHECKS.equal("part -1" + what, reader.part(0, k, -1), -1);
        CHECKS.equal("part behind the last" + what, reader.part(0, k, due), -1);
    }

    private static void numbersOfNodes() {
        CHECKS.sentence("Nodes are numbered as they stand, 0 being the TEXT");
        Sitting reader = new Sitting();
        Checks.readText(reader, 1, "fun f(a){a=1+a;}fun g(){f(a);}");
        // 0 text, 1 fun, 2 f, 3 a, 4 block, 5 set, 6 a, 7 sum, 8 1, 9 +, 10 a,
        // 11 fun, 12 g, 13 block, 14 call, 15 nothing, 16 f, 17 a
        int[] sizes = {18, 10, 1, 1, 7, 6, 1, 4, 1, 2, 1, 7, 1, 5, 4, 1, 1, 1};
        int[] wholes = {-1, 0, 1, 1, 1, 4, 5, 5, 7, 7, 9, 0, 11, 11, 13, 14, 14, 14};
        int[][] parts = {{1, 11}, {2, 3, 4}, {}, {}, {5}, {6, 7}, {}, {8, 9}, {}, {10}, {},
            {12, 13}, {}, {14}, {15, 16, 17}, {}, {}, {}};
        CHECKS.equal("nodes", reader.nodes(1), 18);
        for (int k = 0; k < sizes.length; k++) {
            CHECKS.equal("size of " + k, reader.node(1, k, 3), sizes[k]);
            CHECKS.equal("whole of " + k, reader.whole(1, k), wholes[k]);
            CHECKS.equal("parts of " + k, reader.node(1, k, 4), parts[k].length);
            for (int i = 0; i < parts[k].length; i++) {
                CHECKS.equal("part " + i + " of " + k, reader.part(1, k, i), parts[k][i]);
            }
            CHECKS.equal("part -1 of " + k, reader.part(1, k, -1), -1);
            CHECKS.equal("part behind the last of " + k, reader.part(1, k, parts[k].length), -1);
        }
    }

    // No text of 8000 bytes has more nodes: five to every four bytes.
    private static void largestTree() {
        CHECKS.sentence("How many nodes a tree has");
        Sitting reader = new Sitting();
        String text = "fun f(){x=1" + Checks.repeat("+a*a", 1996) + ";}";
        CHECKS.equal("read", Checks.readText(reader, 0, text), -1);
        CHECKS.equal("nodes", reader.nodes(0), 8 + 5 * 1996);
        CHECKS.equal("parts", reader.node(0, 6, 4), 1997);
        CHECKS.equal("last part", reader.part(0, 6, 1996), 8 + 5 * 1995);
        CHECKS.equal("none behind it", reader.part(0, 6, 1997), -1);
        CHECKS.equal("size", reader.node(0, 0, 3), 8 + 5 * 1996);
        CHECKS.equal("last node", reader.node(0, 7 + 5 * 1996, 0), 13);
        CHECKS.equal("its place", reader.node(0, 7 + 5 * 1996, 1), text.length() - 3);
        CHECKS.equal("its whole", reader.whole(0, 7 + 5 * 1996), 6 + 5 * 1996);
        CHECKS.equal("none behind it", reader.node(0, 8 + 5 * 1996, 0), -2);
        CHECKS.equal("as the other tree too", Checks.readText(reader, 1, "fun f(){}"), -1);
        CHECKS.equal("nodes", reader.nodes(0), 8 + 5 * 1996);
    }

    private static void nodesOfNoTree() {
        CHECKS.sentence("How many nodes a tree has; 0 when there is no such tree");
        Sitting reader = new Sitting();
        Checks.readText(reader, 0, "fun f(){}");
        CHECKS.equal("tree 0", reader.nodes(0), 4);
        CHECKS.equal("tree 1", reader.nodes(1), 1);
        for (int tree : NO_TREES) {
            CHECKS.equal("tree " + tree, reader.nodes(tree), 0);
        }
    }

    private static Sitting twoTrees() {
        Sitting reader = new Sitting();
        Checks.readText(reader, 0, "fun f(){}");
        Checks.readText(reader, 1, "fun f(a){a=1;}");
        return reader;
    }

    private static void noSuchNode() {
        CHECKS.sentence("-2 when there is no such node");
        Sitting reader = twoTrees();
        for (int what = 0; what < 5; what++) {
            for (int tree : NO_TREES) {
                CHECKS.equal("tree " + tree, reader.node(tree, 0, what), -2);
            }
            int[] none = {-1, -2, 4, 5, 7, 8, Integer.MIN_VALUE, Integer.MAX_VALUE};
            for (int k : none) {
                CHECKS.equal("node " + k, reader.node(0, k, what), -2);
            }
            CHECKS.equal("the last of the other tree", reader.node(1, 7, what) != -2, true);
            CHECKS.equal("behind it", reader.node(1, 8, what), -2);
        }
        CHECKS.equal("the first node", reader.node(0, 0, 0), 0);
        CHECKS.equal("the last one", reader.node(0, 3, 0), 2);
    }

    private static void noSuchWhat() {
        CHECKS.sentence("-2 when .. what is none of these");
        Sitting reader = twoTrees();
        int[] none = {-1, -2, 5, 6, 256, Integer.MIN_VALUE, Integer.MAX_VALUE};
        for (int what : none) {
            for (int k = -1; k <= 4; k++) {
                CHECKS.equal("what " + what + " of " + k, reader.node(0, k, what), -2);
            }
        }
        int[] due = {1, 0, 0, 3, 2};
        for (int what = 0; what < 5; what++) {
            CHECKS.equal("what " + what, reader.node(0, 1, what), due[what]);
        }
    }

    private static void noSuchPart() {
        CHECKS.sentence("The number of part i, from 0, of a node; NONE when there is none such");
        Sitting reader = twoTrees();
        int[] none = {-1, -2, 2, 3, Integer.MIN_VALUE, Integer.MAX_VALUE};
        for (int i : none) {
            CHECKS.equal("part " + i, reader.part(0, 1, i), -1);
            CHECKS.equal("part " + i + " of a leaf", reader.part(0, 2, i), -1);
            CHECKS.equal("part " + i + " of no node", reader.part(0, 4, i), -1);
        }
        for (int tree : NO_TREES) {
            CHECKS.equal("tree " + tree, reader.part(tree, 1, 0), -1);
        }
        int[] noNodes = {-1, 4, 5, Integer.MIN_VALUE, Integer.MAX_VALUE};
        for (int k : noNodes) {
            CHECKS.equal("node " + k, reader.part(0, k, 0), -1);
        }
        CHECKS.equal("a leaf's", reader.part(0, 2, 0), -1);
        CHECKS.equal("part 0", reader.part(0, 1, 0), 2);
        CHECKS.equal("part 1", reader.part(0, 1, 1), 3);
        CHECKS.equal("an inner one's", reader.part(1, 4, 0), 5);
    }

    private static void noSuchWhole() {
        CHECKS.sentence("The node whose part a node is; NONE when there is none such. (So for node 0.)");
        Sitting reader = twoTrees();
        CHECKS.equal("node 0", reader.whole(0, 0), -1);
        CHECKS.equal("node 0 of the other", reader.whole(1, 0), -1);
        CHECKS.equal("node 1", reader.whole(0, 1), 0);
        CHECKS.equal("node 3", reader.whole(0, 3), 1);
        for (int tree : NO_TREES) {
            CHECKS.equal("tree " + tree, reader.whole(tree, 1), -1);
        }
        int[] noNodes = {-1, -2, 4, 5, 7, Integer.MIN_VALUE, Integer.MAX_VALUE};
        for (int k : noNodes) {
            CHECKS.equal("node " + k, reader.whole(0, k), -1);
        }
        CHECKS.equal("the last of the other tree", reader.whole(1, 7), 5);
        CHECKS.equal("behind it", reader.whole(1, 8), -1);
    }

    private static void inBlock(String statement, String due) {
        String text = "fun f(){" + statement + "}";
        tree(text, "0@-1(1@0(13@4 2@7(" + due + ")))");
    }

    private static void sum(String sum, String due) {
        inBlock("return " + sum + ";", "11@8(" + due + ")");
    }

    private static void condition(String condition, String due) {
        inBlock("assert(" + condition + ");", "10@8(" + due + ")");
    }

    private static void tree(String text, String due) {
        Sitting reader = new Sitting();
        Checks.readText(reader, 1, text);
        CHECKS.equal(text, Checks.treeText(reader, 1, 0), due);
    }
}
