/** Promises 10 and 11: write and written, with the fewest brackets and blanks, of whole and parts. */
public final class WriteTest {
    private static final Checks CHECKS = new Checks("write");

    public static void main(String[] args) {
        layout();
        sums();
        conditions();
        parts();
        refused();
        CHECKS.end();
    }

    private static void layout() {
        whole(" fun  f ( ) { } ", "fun f(){}");
        whole("fun f(a , b){} // x\n fun g(a){}", "fun f(a,b){}fun g(a){}");
        whole("fun f(){ var x ; var y = ( 1 ) ; var z [ 9 ] ; }", "fun f(){var x;var y=1;var z[9];}");
        whole("fun f(){ x = y ; x [ 1 ] = y ; }", "fun f(){x=y;x[1]=y;}");
        whole("fun f(){ x = g ( ) ; x = g ( 1 ) ; g ( 1 , x ) ; g ( ) ; }", "fun f(){x=g();x=g(1);g(1,x);g();}");
        whole("fun f(){ if ( 1 < 2 ) { } if ( 1 < 2 ) { } else { } }", "fun f(){if(1<2){}if(1<2){}else{}}");
        whole("fun f(){ while ( 1 < 2 ) { x = 1 ; } assert ( 1 < 2 ) ; }", "fun f(){while(1<2){x=1;}assert(1<2);}");
        whole("fun f(){return(1);}", "fun f(){return 1;}");
        whole("fun f(){return(x);}", "fun f(){return x;}");
        whole("fun f(){return(any);}", "fun f(){return any;}");
        whole("fun f(){return(_);}", "fun f(){return _;}");
        whole("fun f(){return - 1;}", "fun f(){return-1;}");
        whole("fun f(){return (1+2)*3;}", "fun f(){return(1+2)*3;}");
        whole("fun f(){ f(any ( - 1 , 2147483647 )) ; }", "fun f(){f(any(-1,2147483647));}");
        whole("fun f(){x=any(-0,0);}", "fun f(){x=any(0,0);}");
        whole("fun f(){x=10;y=100;z=1000000000;}", "fun f(){x=10;y=100;z=1000000000;}");
        whole("fun f(){x=any(-2147483647,-10);}", "fun f(){x=any(-2147483647,-10);}");
        whole("fun f(){x=1+;}", "");
        whole("", "");
    }

    private static void sums() {
        sum("(1)", "1");
        sum("((a[(1)]))", "a[1]");
        sum("a[(1+2)]", "a[1+2]");
        sum("1 - - 2", "1--2");
        sum("1 - (-2)", "1--2");
        sum("-(-(1))", "--1");
        sum("(-1)*(-2)", "-1*-2");
        sum("-(1*2)", "-(1*2)");
        sum("-(1+2)", "-(1+2)");
        sum("-(a[1])", "-a[1]");
        sum("-(any(1,2))", "-any(1,2)");
        sum("(1+2)+3", "(1+2)+3");
        sum("1+(2+3)", "1+(2+3)");
        sum("1-(2-3)-4", "1-(2-3)-4");
        sum("(1*2)+(3/4)-(5%6)", "1*2+3/4-5%6");
        sum("(1*2)*3", "(1*2)*3");
        sum("1*(2*3)", "1*(2*3)");
        sum("1/((2%3))", "1/(2%3)");
        sum("((1+2))*((3-4))%((5))", "(1+2)*(3-4)%5");
        sum("((1+2)*3)+4", "(1+2)*3+4");
        sum("(((1+2)))", "1+2");
        sum("6/(2)/(1)", "6/2/1");
    }

    private static void conditions() {
        condition("[1<2]", "1<2");
        condition("((1+2))<((3*4))", "1+2<3*4");
        condition("[1<2&&3<4]||[5<6]", "1<2&&3<4||5<6");
        condition("[1<2||3<4]||5<6", "[1<2||3<4]||5<6");
        condition("1<2||[3<4||5<6]", "1<2||[3<4||5<6]");
        condition("[1<2||3<4]&&5<6", "[1<2||3<4]&&5<6");
        condition("[1<2&&3<4]&&5<6", "[1<2&&3<4]&&5<6");
        condition("1<2&&[[3<4&&5<6]]", "1<2&&[3<4&&5<6]");
        condition("![1<2]", "!1<2");
        condition("![![1<2]]", "!!1<2");
        condition("[!1<2]&&[!3<4]", "!1<2&&!3<4");
        condition("![1<2&&3<4]", "![1<2&&3<4]");
        condition("![1<2||3<4]", "![1<2||3<4]");
        condition("1<=2&&1>2||1>=2&&1==2||1!=2", "1<=2&&1>2||1>=2&&1==2||1!=2");
        condition("1<-2&&-1==-2", "1<-2&&-1==-2");
    }

    private static void parts() {
        ProgramReader reader = new ProgramReader();
        Checks.readText(reader, 0, "fun f(a){x=(1+2)*3-(4*5)-(6-7)/(8*9);g(any(-1,2));"
            + "if([1<2||3<4]&&5<6){}else{return(1);}}");
        String[] due = {
            "fun f(a){x=(1+2)*3-4*5-(6-7)/(8*9);g(any(-1,2));if([1<2||3<4]&&5<6){}else{return 1;}}",
            "fun f(a){x=(1+2)*3-4*5-(6-7)/(8*9);g(any(-1,2));if([1<2||3<4]&&5<6){}else{return 1;}}",
            "f", "a",
            "{x=(1+2)*3-4*5-(6-7)/(8*9);g(any(-1,2));if([1<2||3<4]&&5<6){}else{return 1;}}",
            "x=(1+2)*3-4*5-(6-7)/(8*9);", "x",
            "(1+2)*3-4*5-(6-7)/(8*9)",
            "(1+2)*3", "1+2", "1", "+2", "2", "*3", "3",
            "-4*5", "4*5", "4", "*5", "5",
            "-(6-7)/(8*9)", "(6-7)/(8*9)", "6-7", "6", "-7", "7", "/(8*9)", "8*9", "8", "*9", "9",
            "g(any(-1,2));", "", "g", "any(-1,2)", "-1", "2",
            "if([1<2||3<4]&&5<6){}else{return 1;}",
            "[1<2||3<4]&&5<6", "1<2||3<4", "1<2", "1", "2", "3<4", "3", "4", "5<6", "5", "6",
            "{}", "{return 1;}", "return 1;", "1",
        };
        CHECKS.equal("nodes", reader.nodes(0), due.length);
        for (int k = 0; k < due.length; k++) {
            CHECKS.equal("node " + k, Checks.writeText(reader, 0, k), due[k]);
        }
        part("x=1-(2+3);", 9, "-(2+3)");
        part("x=1+(2*3);", 9, "+2*3");
        part("x=1*(2*3);", 9, "*(2*3)");
        part("x=1%-(2);", 9, "%-2");
        part("x=-(2-3);", 7, "-(2-3)");
        part("assert(!![1<2&&3<4]);", 6, "!![1<2&&3<4]");
        part("var x[5];", 5, "var x[5];");
        part("var x=5;", 5, "var x=5;");
        part("while(1<2){}", 5, "while(1<2){}");
        part("x[1]=y[2];", 8, "y[2]");
    }

    private static void refused() {
        ProgramReader reader = new ProgramReader();
        CHECKS.equal("of an empty text", reader.write(0, 0), 0);
        CHECKS.equal("nothing", reader.written(0), -1);
        Checks.readText(reader, 0, "fun f(){}");
        CHECKS.equal("a function", reader.write(0, 1), 9);
        int[][] none = {{0, -1}, {0, 4}, {1, 1}, {-1, 0}, {2, 0}, {0, Integer.MAX_VALUE},
            {0, Integer.MIN_VALUE}, {Integer.MAX_VALUE, 0}, {Integer.MIN_VALUE, 0}};
        for (int[] pair : none) {
            CHECKS.equal("write(" + pair[0] + ", " + pair[1] + ")", reader.write(pair[0], pair[1]), -1);
            CHECKS.equal("changes nothing", Checks.writtenText(reader), "fun f(){}");
        }
        CHECKS.equal("byte -1", reader.written(-1), -1);
        CHECKS.equal("byte 8", reader.written(8), '}');
        CHECKS.equal("byte 9", reader.written(9), -1);
        CHECKS.equal("far behind", reader.written(Integer.MAX_VALUE), -1);
        CHECKS.equal("far before", reader.written(Integer.MIN_VALUE), -1);
        CHECKS.equal("shorter", reader.write(0, 3), 2);
        CHECKS.equal("no rest of before", Checks.writtenText(reader), "{}");
        Checks.readText(reader, 0, "fun g(){}");
        CHECKS.equal("reading leaves it", Checks.writtenText(reader), "{}");
        CHECKS.equal("empty again", reader.write(1, 0), 0);
        CHECKS.equal("nothing", Checks.writtenText(reader), "");
        CHECKS.equal("nothing to feed", reader.again(), 0);
    }

    private static void sum(String sum, String due) {
        whole("fun f(){x=" + sum + ";}", "fun f(){x=" + due + ";}");
        whole("fun f(){g(" + sum + ",a[" + sum + "]);}", "fun f(){g(" + due + ",a[" + due + "]);}");
        whole("fun f(){assert(" + sum + "<" + sum + ");}", "fun f(){assert(" + due + "<" + due + ");}");
    }

    private static void condition(String condition, String due) {
        whole("fun f(){assert(" + condition + ");}", "fun f(){assert(" + due + ");}");
        whole("fun f(){while([" + condition + "]){}}", "fun f(){while(" + due + "){}}");
    }

    private static void part(String statement, int k, String due) {
        ProgramReader reader = new ProgramReader();
        Checks.readText(reader, 0, "fun f(z){" + statement + "}");
        CHECKS.equal(statement, Checks.writeText(reader, 0, k), due);
    }

    private static void whole(String text, String due) {
        ProgramReader reader = new ProgramReader();
        Checks.readText(reader, 1, text);
        CHECKS.equal(text, Checks.writeText(reader, 1, 0), due);
    }
}
