/** Terms, WRITTEN, and promises 10 and 11: the fewest brackets and blanks, of wholes and parts. */
public final class WriteTest {
    private static final Checks CHECKS = new Checks("write");
    // Tree 0 has four nodes, tree 1 one.
    private static final int[][] NO_NODES = {{0, -1}, {0, -2}, {0, 4}, {0, 5}, {1, 1}, {1, -1}, {-1, 0}, {2, 0},
        {-1, -1}, {0, Integer.MAX_VALUE}, {0, Integer.MIN_VALUE}, {Integer.MAX_VALUE, 0}, {Integer.MIN_VALUE, 0}};

    public static void main(String[] args) {
        layout();
        oneBlank();
        numbers();
        sums();
        conditions();
        bracketsOfSums();
        bracketsOfConditions();
        parts();
        signsInFront();
        nothing();
        howMany();
        noSuchNode();
        refusedChangesNothing();
        longest();
        bytesWritten();
        writtenLast();
        CHECKS.end();
    }

    private static void layout() {
        CHECKS.sentence("WRITTEN is a node by its tokens, without blanks");
        whole(" fun  f ( ) { } ", "fun f(){}");
        whole("fun f(a , b){} // x\n fun g(a){}", "fun f(a,b){}fun g(a){}");
        whole("fun f(){ var x ; var y = ( 1 ) ; var z [ 9 ] ; }", "fun f(){var x;var y=1;var z[9];}");
        whole("fun f(){ x = y ; x [ 1 ] = y ; }", "fun f(){x=y;x[1]=y;}");
        whole("fun f(){ x = g ( ) ; x = g ( 1 ) ; g ( 1 , x ) ; g ( ) ; }", "fun f(){x=g();x=g(1);g(1,x);g();}");
        whole("fun f(){ if ( 1 < 2 ) { } if ( 1 < 2 ) { } else { } }", "fun f(){if(1<2){}if(1<2){}else{}}");
        whole("fun f(){ while ( 1 < 2 ) { x = 1 ; } assert ( 1 < 2 ) ; }", "fun f(){while(1<2){x=1;}assert(1<2);}");
        whole("fun f(){x=1+;}", "");
        whole("", "");
        whole("fun f(){}fun g(){;}", "fun f(){}");
    }

    private static void oneBlank() {
        CHECKS.sentence("but one between two tokens of which the first one ends and the second one begins with a letter, a digit or _");
        String[] words = {"a", "z", "A", "Z", "_", "a0", "x_", "any"};
        for (String word : words) {
            whole("fun f(){return(" + word + ");}", "fun f(){return " + word + ";}");
            whole("fun f(){return \t\r\n//\n " + word + ";}", "fun f(){return " + word + ";}");
        }
        String[] names = {"a", "z", "A", "Z", "_", "a0", "x_", "any0"};
        for (String name : names) {
            whole("fun  " + name + "  (  " + name + " ){ }", "fun " + name + "(" + name + "){}");
            whole("fun f(){ var  " + name + " ; }", "fun f(){var " + name + ";}");
            whole("fun f(){ var\n" + name + " = 1 ; }", "fun f(){var " + name + "=1;}");
            whole("fun f(){ var//\n" + name + " [ 1 ] ; }", "fun f(){var " + name + "[1];}");
            whole("fun f(){ return\t" + name + " [ 1 ] ; }", "fun f(){return " + name + "[1];}");
        }
        String[] numbers = {"0", "1", "9", "10", "2147483647"};
        for (String number : numbers) {
            whole("fun f(){return(" + number + ");}", "fun f(){return " + number + ";}");
        }
        whole("fun f(){return any ( 1 , 2 );}", "fun f(){return any(1,2);}");
        whole("fun f(){return (1)*2;}", "fun f(){return 1*2;}");
        whole("fun f(){return ((1)*2)+3;}", "fun f(){return 1*2+3;}");
        CHECKS.sentence("without blanks");
        whole("fun f(){return - 1;}", "fun f(){return-1;}");
        whole("fun f(){return - a;}", "fun f(){return-a;}");
        whole("fun f(){return (1+2)*3;}", "fun f(){return(1+2)*3;}");
        whole("fun f(){return (1*2)*3;}", "fun f(){return(1*2)*3;}");
        whole("fun f(){return (1+2)+3;}", "fun f(){return(1+2)+3;}");
        whole("fun f(){x=1;} fun g(){}", "fun f(){x=1;}fun g(){}");
        whole("fun f(){if(1<2){} else {} x=1; if(1<2){} x=1;}", "fun f(){if(1<2){}else{}x=1;if(1<2){}x=1;}");
        whole("fun f(){x = any ; y = any * any ; }", "fun f(){x=any;y=any*any;}");
        whole("fun f(){x = 1 - - 1 + - - a ; }", "fun f(){x=1--1+--a;}");
        whole("fun f(){assert ( ! ! 1 < - 2 && ! a == - b ) ; }", "fun f(){assert(!!1<-2&&!a==-b);}");
        whole("fun f(){x = 6 / 2 ; }", "fun f(){x=6/2;}");
    }

    private static void numbers() {
        CHECKS.sentence("WRITTEN is a node by its tokens");
        String[] numbers = {"0", "1", "9", "10", "11", "99", "100", "101", "110", "1000000000", "1000000001",
            "1234567890", "2000000000", "2147483640", "2147483646", "2147483647"};
        for (String number : numbers) {
            String text = "fun f(){x=" + number + ";var y[" + number + "];z=any(" + number + "," + number + ");}";
            whole(text, text);
            if (!number.equals("0")) {
                whole("fun f(){x=any(- " + number + ",-" + number + ");}",
                    "fun f(){x=any(-" + number + ",-" + number + ");}");
            }
        }
        whole("fun f(){x=any(-0,0);}", "fun f(){x=any(0,0);}");
        String name = "_" + Checks.repeat("aZ09_", 5) + "wxyz";
        whole("fun " + name + "(){ " + name + "=" + name + " ; }", "fun " + name + "(){" + name + "=" + name + ";}");
    }

    private static void sums() {
        CHECKS.sentence("brackets stand only where without them it would not be read as the same");
        sum("(1)", "1");
        sum("((a[(1)]))", "a[1]");
        sum("a[(1+2)]", "a[1+2]");
        sum("1 - - 2", "1--2");
        sum("1 - (-2)", "1--2");
        sum("-(-(1))", "--1");
        sum("(-1)*(-2)", "-1*-2");
        sum("-(1*2)", "-(1*2)");
        sum("-(1+2)", "-(1+2)");
        sum("-(a[1])", "-a[1]");
        sum("-(any(1,2))", "-any(1,2)");
        sum("(1+2)+3", "(1+2)+3");
        sum("1+(2+3)", "1+(2+3)");
        sum("1-(2-3)-4", "1-(2-3)-4");
        sum("(1*2)+(3/4)-(5%6)", "1*2+3/4-5%6");
        sum("(1*2)*3", "(1*2)*3");
        sum("1*(2*3)", "1*(2*3)");
        sum("1/((2%3))", "1/(2%3)");
        sum("((1+2))*((3-4))%((5))", "(1+2)*(3-4)%5");
        sum("((1+2)*3)+4", "(1+2)*3+4");
        sum("(((1+2)))", "1+2");
        sum("6/(2)/(1)", "6/2/1");
    }

    private static void conditions() {
        CHECKS.sentence("brackets stand only where without them it would not be read as the same");
        condition("[1<2]", "1<2");
        condition("((1+2))<((3*4))", "1+2<3*4");
        condition("[1<2&&3<4]||[5<6]", "1<2&&3<4||5<6");
        condition("[1<2||3<4]||5<6", "[1<2||3<4]||5<6");
        condition("1<2||[3<4||5<6]", "1<2||[3<4||5<6]");
        condition("[1<2||3<4]&&5<6", "[1<2||3<4]&&5<6");
        condition("[1<2&&3<4]&&5<6", "[1<2&&3<4]&&5<6");
        condition("1<2&&[[3<4&&5<6]]", "1<2&&[3<4&&5<6]");
        condition("![1<2]", "!1<2");
        condition("![![1<2]]", "!!1<2");
        condition("[!1<2]&&[!3<4]", "!1<2&&!3<4");
        condition("![1<2&&3<4]", "![1<2&&3<4]");
        condition("![1<2||3<4]", "![1<2||3<4]");
        condition("1<=2&&1>2||1>=2&&1==2||1!=2", "1<=2&&1>2||1>=2&&1==2||1!=2");
        condition("1<-2&&-1==-2", "1<-2&&-1==-2");
    }

    // Each FACTOR, TERM or SUM in each place where one can stand: + where brackets must stand
    // round a SUM of several TERMs, * where they must round a TERM of several FACTORs too.
    private static void bracketsOfSums() {
        CHECKS.sentence("brackets stand only where without them it would not be read as the same");
        String[] places = {"x=@;", "var x=@;", "a[@]=1;", "a[1]=@;", "g(@);", "g(1,@,2);", "x=g(@);", "x=a[@];",
            "if(@<1){}", "while(1<=@){}", "assert(!@==@);", "x=@+1;+", "x=1+@;+", "x=1-@;+", "x=1+@-2;+",
            "x=1-@+2;+", "x=1+2-@;+", "x=-@;*", "x=--@;*", "x=@*1;*", "x=1*@;*", "x=1/@;*", "x=1%@;*", "x=1*@*2;*",
            "x=1+@*2;*", "x=1-2%@;*", "x=1+-@;*", "x=2*-@;*"};
        String[] factors = {"1", "v", "a[1+2]", "a[1*2]", "-1", "--v", "-(1+2)", "-(1*2)", "any", "any(-1,2)"};
        String[] terms = {"1*2", "1/2", "1%2", "1*2*3", "-1*2", "1*-2", "(1+2)*3", "1*(2-3)", "(1*2)*3", "1/(2*3)"};
        String[] sums = {"1+2", "1-2", "1+2-3", "-1+2", "1--2", "1*2+3", "1-2*3", "(1+2)+3", "1-(2+3)"};
        for (String place : places) {
            for (String factor : factors) {
                brackets(place, factor, false);
            }
            for (String term : terms) {
                brackets(place, term, place.endsWith("*"));
            }
            for (String sum : sums) {
                brackets(place, sum, place.endsWith("*") || place.endsWith("+"));
            }
        }
    }

    private static void brackets(String marked, String inner, boolean stay) {
        String place = "fun f(){" + marked.replaceAll("[+*]$", "") + "}";
        String due = place.replace("@", stay ? "(" + inner + ")" : inner);
        whole(place.replace("@", "(" + inner + ")"), due);
        whole(place.replace("@", "( (" + inner + ") )"), due);
    }

    // Each TEST, BOTH or COND in each place where one can stand: | where brackets must stand round
    // a COND of several BOTHs, & where they must round a BOTH of several TESTs too.
    private static void bracketsOfConditions() {
        CHECKS.sentence("brackets stand only where without them it would not be read as the same");
        String[] places = {"if(@){}", "while(@){}", "assert(@);", "assert(@||1<2);|", "assert(1<2||@);|",
            "assert(1<2||@||3<4);|", "assert(!@);&", "assert(!!@);&", "assert(@&&1<2);&", "assert(1<2&&@);&",
            "assert(1<2&&@&&3<4);&", "assert(1<2||@&&3<4);&", "assert(1<2&&!@);&"};
        String[] tests = {"1<2", "1<=2", "1>2", "1>=2", "1==2", "1!=2", "!1<2", "!!1<2", "1+2<3*4", "![1<2||3<4]",
            "![1<2&&3<4]"};
        String[] boths = {"5<6&&7<8", "5<6&&7<8&&9<0", "!5<6&&7<8", "[5<6||7<8]&&9<0", "5<6&&[7<8&&9<0]"};
        String[] conditions = {"5<6||7<8", "5<6||7<8||9<0", "5<6&&7<8||9<0", "5<6||7<8&&9<0", "[5<6||7<8]||9<0"};
        for (String place : places) {
            for (String test : tests) {
                squares(place, test, false);
            }
            for (String both : boths) {
                squares(place, both, place.endsWith("&"));
            }
            for (String condition : conditions) {
                squares(place, condition, place.endsWith("&") || place.endsWith("|"));
            }
        }
    }

    private static void squares(String marked, String inner, boolean stay) {
        String place = "fun f(){" + marked.replaceAll("[|&]$", "") + "}";
        String due = place.replace("@", stay ? "[" + inner + "]" : inner);
        whole(place.replace("@", "[" + inner + "]"), due);
        whole(place.replace("@", "[ [" + inner + "] ]"), due);
    }

    private static void parts() {
        CHECKS.sentence("Writes a node with all in it");
        Sitting reader = new Sitting();
        Checks.readText(reader, 0, "fun f(a){x=(1+2)*3-(4*5)-(6-7)/(8*9);g(any(-1,2));"
            + "if([1<2||3<4]&&5<6){}else{return(1);}}");
        String[] due = {
            "fun f(a){x=(1+2)*3-4*5-(6-7)/(8*9);g(any(-1,2));if([1<2||3<4]&&5<6){}else{return 1;}}",
            "fun f(a){x=(1+2)*3-4*5-(6-7)/(8*9);g(any(-1,2));if([1<2||3<4]&&5<6){}else{return 1;}}",
            "f", "a",
            "{x=(1+2)*3-4*5-(6-7)/(8*9);g(any(-1,2));if([1<2||3<4]&&5<6){}else{return 1;}}",
            "x=(1+2)*3-4*5-(6-7)/(8*9);", "x",
            "(1+2)*3-4*5-(6-7)/(8*9)",
            "(1+2)*3", "1+2", "1", "+2", "2", "*3", "3",
            "-4*5", "4*5", "4", "*5", "5",
            "-(6-7)/(8*9)", "(6-7)/(8*9)", "6-7", "6", "-7", "7", "/(8*9)", "8*9", "8", "*9", "9",
            "g(any(-1,2));", "", "g", "any(-1,2)", "-1", "2",
            "if([1<2||3<4]&&5<6){}else{return 1;}",
            "[1<2||3<4]&&5<6", "1<2||3<4", "1<2", "1", "2", "3<4", "3", "4", "5<6", "5", "6",
            "{}", "{return 1;}", "return 1;", "1",
        };
        CHECKS.equal("nodes", reader.nodes(0), due.length);
        for (int k = 0; k < due.length; k++) {
            CHECKS.equal("node " + k, Checks.writeText(reader, 0, k), due[k]);
        }
        part("assert(!![1<2&&3<4]);", 6, "!![1<2&&3<4]");
        part("var x[5];", 5, "var x[5];");
        part("var x=5;", 5, "var x=5;");
        part("while(1<2){}", 5, "while(1<2){}");
        part("x[1]=y[2];", 8, "y[2]");
    }

    private static void signsInFront() {
        CHECKS.sentence("(18, 19, 21 to 23 are written with their sign in front, the part as it stands behind that");
        part("x=1+2;", 9, "+2");
        part("x=1-2;", 9, "-2");
        part("x=1*2;", 9, "*2");
        part("x=1/2;", 9, "/2");
        part("x=1%2;", 9, "%2");
        part("x=1+(a);", 9, "+a");
        part("x=1+(2+3);", 9, "+(2+3)");
        part("x=1-(2+3);", 9, "-(2+3)");
        part("x=1+(2*3);", 9, "+2*3");
        part("x=1-(2/3);", 9, "-2/3");
        part("x=1*(2*3);", 9, "*(2*3)");
        part("x=1/(2+3);", 9, "/(2+3)");
        part("x=1%(2-3);", 9, "%(2-3)");
        part("x=1%-(2);", 9, "%-2");
        part("x=1--2;", 9, "--2");
        part("x=1+2*3;", 9, "+2*3");
        part("x=1-(2+3);", 10, "2+3");
        part("x=1*(2+3);", 10, "2+3");
        part("x=-(2-3);", 7, "-(2-3)");
        part("x=-(2-3);", 8, "2-3");
        part("x=-(2*3);", 7, "-(2*3)");
        part("x=-(2*3);", 8, "2*3");
        part("assert(![1<2||3<4]);", 6, "![1<2||3<4]");
        part("assert(![1<2||3<4]);", 7, "1<2||3<4");
        part("assert(1<2&&[3<4||5<6]);", 10, "3<4||5<6");
    }

    private static void nothing() {
        CHECKS.sentence("NOTHING is nothing");
        Sitting reader = new Sitting();
        Checks.readText(reader, 0, "fun f(){g(1);x=g(1);}");
        CHECKS.equal("a call", Checks.writeText(reader, 0, 4), "g(1);");
        CHECKS.equal("kind", reader.node(0, 5, 0), 33);
        CHECKS.equal("bytes", reader.write(0, 5), 0);
        CHECKS.equal("first byte", reader.written(0), -1);
        CHECKS.equal("again", reader.again(), 0);
        CHECKS.equal("a call with a NAME in front", Checks.writeText(reader, 0, 8), "x=g(1);");
    }

    private static void howMany() {
        CHECKS.sentence("Writes a node with all in it: how many bytes it has");
        Sitting reader = new Sitting();
        CHECKS.equal("of a TEXT without functions", reader.write(0, 0), 0);
        Checks.readText(reader, 0, " fun f ( ) { x = 10 ; } ");
        int[] due = {14, 14, 1, 7, 5, 1, 2};
        for (int k = 0; k < due.length; k++) {
            CHECKS.equal("node " + k, reader.write(0, k), due[k]);
        }
        CHECKS.equal("of the other tree", reader.write(1, 0), 0);
    }

    private static void noSuchNode() {
        CHECKS.sentence("NONE .. when there is no such node");
        Sitting reader = new Sitting();
        Checks.readText(reader, 0, "fun f(){}");
        for (int[] pair : NO_NODES) {
            CHECKS.equal("write(" + pair[0] + ", " + pair[1] + ")", reader.write(pair[0], pair[1]), -1);
        }
        CHECKS.equal("the first node", reader.write(0, 0), 9);
        CHECKS.equal("the last one", reader.write(0, 3), 2);
        CHECKS.equal("the other tree's only one", reader.write(1, 0), 0);
    }

    private static void refusedChangesNothing() {
        CHECKS.sentence("NONE, changing nothing");
        for (int[] pair : NO_NODES) {
            Sitting reader = new Sitting();
            Checks.readText(reader, 0, "fun f(){}");
            CHECKS.equal("a function", reader.write(0, 1), 9);
            Checks.feedText(reader, "fun g(){}");
            String before = Checks.stateText(reader);
            CHECKS.equal("write(" + pair[0] + ", " + pair[1] + ")", reader.write(pair[0], pair[1]), -1);
            CHECKS.equal("state", Checks.stateText(reader), before);
            CHECKS.equal("bytes", reader.read(1, 20), -1);
            CHECKS.equal("they are the same", Checks.writeText(reader, 1, 0), "fun g(){}");
        }
    }

    // Nothing that was read can have more than 8000: each token and blank that is written stood
    // in what was read, or brackets that fell away there.
    private static void longest() {
        CHECKS.sentence("or it has more than 8000");
        for (int length = 7996; length <= 8000; length++) {
            Sitting reader = new Sitting();
            String text = "fun f(){x=" + Checks.repeat("a", length - 12 - 2 * 3988) + Checks.repeat("+a", 3988) + ";}";
            CHECKS.equal("length", text.length(), length);
            CHECKS.equal("read", Checks.readText(reader, 0, text), -1);
            CHECKS.equal("write " + length, reader.write(0, 0), length);
            CHECKS.equal("last byte", reader.written(length - 1), '}');
            CHECKS.equal("behind it", reader.written(length), -1);
            CHECKS.equal("the function", reader.write(0, 1), length);
            CHECKS.equal("its block", reader.write(0, 3), length - 7);
            CHECKS.equal("first byte", reader.written(0), '{');
        }
        Sitting reader = new Sitting();
        String statements = "fun f(){" + Checks.repeat("return(1);", 799) + "}";
        CHECKS.equal("brackets to blanks", Checks.readText(reader, 1, statements), -1);
        CHECKS.equal("one byte less each", reader.write(1, 0), 9 + 9 * 799);
    }

    private static void bytesWritten() {
        CHECKS.sentence("Byte i of what was written last; NONE when there is none");
        Sitting reader = new Sitting();
        CHECKS.equal("nothing yet", reader.written(0), -1);
        Checks.readText(reader, 0, "fun f(){}");
        CHECKS.equal("a function", reader.write(0, 1), 9);
        int[] none = {-1, -2, 9, 10, 7999, 8000, Integer.MIN_VALUE, Integer.MAX_VALUE};
        for (int i : none) {
            CHECKS.equal("byte " + i, reader.written(i), -1);
        }
        String due = "fun f(){}";
        for (int i = 0; i < due.length(); i++) {
            CHECKS.equal("byte " + i, reader.written(i), due.charAt(i));
        }
    }

    private static void writtenLast() {
        CHECKS.sentence("Byte i of what was written last");
        Sitting reader = new Sitting();
        Checks.readText(reader, 0, "fun f(){x=12345;}");
        CHECKS.equal("longer", Checks.writeText(reader, 0, 0), "fun f(){x=12345;}");
        CHECKS.equal("shorter", Checks.writeText(reader, 0, 6), "12345");
        CHECKS.equal("longer again", Checks.writeText(reader, 0, 3), "{x=12345;}");
        Checks.readText(reader, 0, "fun g(){}");
        CHECKS.equal("reading leaves it", Checks.writtenText(reader), "{x=12345;}");
        Checks.feedText(reader, "fun h(){}");
        CHECKS.equal("feeding leaves it", Checks.writtenText(reader), "{x=12345;}");
        reader.again();
        CHECKS.equal("again leaves it", Checks.writtenText(reader), "{x=12345;}");
        CHECKS.equal("of no bytes", reader.write(1, 0), 0);
        CHECKS.equal("nothing is left", Checks.writtenText(reader), "");
    }

    private static void sum(String sum, String due) {
        whole("fun f(){x=" + sum + ";}", "fun f(){x=" + due + ";}");
        whole("fun f(){g(" + sum + ",a[" + sum + "]);}", "fun f(){g(" + due + ",a[" + due + "]);}");
        whole("fun f(){assert(" + sum + "<" + sum + ");}", "fun f(){assert(" + due + "<" + due + ");}");
    }

    private static void condition(String condition, String due) {
        whole("fun f(){assert(" + condition + ");}", "fun f(){assert(" + due + ");}");
        whole("fun f(){while([" + condition + "]){}}", "fun f(){while(" + due + "){}}");
    }

    private static void part(String statement, int k, String due) {
        Sitting reader = new Sitting();
        Checks.readText(reader, 0, "fun f(z){" + statement + "}");
        CHECKS.equal(statement, Checks.writeText(reader, 0, k), due);
    }

    private static void whole(String text, String due) {
        Sitting reader = new Sitting();
        Checks.readText(reader, 1, text);
        CHECKS.equal(text, Checks.writeText(reader, 1, 0), due);
    }
}
