import java.util.ArrayList;
import java.util.Arrays;
import java.util.List;

/** Terms: what a TEXT consists of: none, one, several and very many of each, and what is none. */
public final class GrammarTest {
    private static final Checks CHECKS = new Checks("grammar");
    private static final String[] ALL_TOKENS = ("fun var if else while assert return any name 7 ( ) { } [ ] , ; = "
        + "+ - * / % < <= > >= == != && || ! $").split(" ");

    public static void main(String[] args) {
        functions();
        names();
        statements();
        sums();
        terms();
        factors();
        limits();
        boths();
        tests();
        blocksOfIf();
        functionFaults();
        statementFaults();
        sumFaults();
        conditionFaults();
        everyNextToken();
        CHECKS.end();
    }

    private static void functions() {
        CHECKS.sentence("A TEXT is one FUNCTION or more");
        fault("", 0);
        fault(" ", 1);
        fault("fun f(){}", -1);
        fault("fun f(){}fun f(){}", -1);
        fault(Checks.repeat("fun f(){}", 888), -1);
        fault(Checks.repeat("fun f(){}", 888) + "fun", 7995);
        parts(Checks.repeat("fun f(){}", 888), 0, 888);
    }

    private static void names() {
        CHECKS.sentence("NAMES being NAMEs with , between");
        fault("fun f(){}", -1);
        fault("fun f(a){}", -1);
        fault("fun f(a,b){}", -1);
        fault("fun f(a" + Checks.repeat(",a", 3994) + "){}", -1);
        parts("fun f(a" + Checks.repeat(",a", 3994) + "){}", 1, 3997);
        fault("fun f(,){}", 6);
        fault("fun f(,a){}", 6);
        fault("fun f(a,){}", 8);
        fault("fun f(a b){}", 8);
        fault("fun f(a,,b){}", 8);
    }

    private static void statements() {
        CHECKS.sentence("{ and } with STATEMENTs between, none or more");
        fault("fun f(){}", -1);
        fault("fun f(){f();}", -1);
        fault("fun f(){f();f();}", -1);
        parts("fun f(){" + Checks.repeat("f();", 1997) + "}", 3, 1997);
        parts("fun f(){" + Checks.repeat("a=1;", 1997) + "}", 3, 1997);
        fault("fun f(){;}", 8);
        fault("fun f(){f();;}", 12);
        fault("fun f(){f(),f();}", 11);
    }

    private static void sums() {
        CHECKS.sentence("SUMS are none, or SUMs with , between");
        parts("fun f(){g();}", 4, 2);
        parts("fun f(){g(1);}", 4, 3);
        parts("fun f(){g(1,2);}", 4, 4);
        parts("fun f(){x=g();}", 4, 2);
        parts("fun f(){x=g(1);}", 4, 3);
        parts("fun f(){x=g(1,2);}", 4, 4);
        parts("fun f(){g(1" + Checks.repeat(",1", 3993) + ");}", 4, 3996);
        fault("fun f(){g(,);}", 10);
        fault("fun f(){g(1,);}", 12);
        fault("fun f(){g(1 2);}", 12);
        fault("fun f(){x=g(,1);}", 12);
    }

    private static void terms() {
        CHECKS.sentence("A SUM is TERMs with + or - between");
        fault("fun f(){x=;}", 10);
        fault("fun f(){x=1;}", -1);
        parts("fun f(){x=1+2;}", 6, 2);
        parts("fun f(){x=1-2;}", 6, 2);
        parts("fun f(){x=1-2+3;}", 6, 3);
        parts("fun f(){x=1" + Checks.repeat("-1", 3993) + ";}", 6, 3994);
        fault("fun f(){x=1+;}", 12);
        fault("fun f(){x=+1;}", 10);
        fault("fun f(){x=1 1;}", 12);
    }

    private static void factors() {
        CHECKS.sentence("a TERM is FACTORs with *, / or % between");
        parts("fun f(){x=1*2;}", 6, 2);
        parts("fun f(){x=1/2;}", 6, 2);
        parts("fun f(){x=1%2;}", 6, 2);
        parts("fun f(){x=1*2/3%4;}", 6, 4);
        parts("fun f(){x=1" + Checks.repeat("%1", 3993) + ";}", 6, 3994);
        fault("fun f(){x=1*;}", 12);
        fault("fun f(){x=/1;}", 10);
        fault("fun f(){x=1*/1;}", 12);
    }

    private static void limits() {
        CHECKS.sentence("any, or any ( LIMIT , LIMIT ), a LIMIT being NUMBER or - NUMBER");
        parts("fun f(){x=any;}", 6, 0);
        parts("fun f(){x=any(1,2);}", 6, 2);
        parts("fun f(){x=any(-1,-2);}", 6, 2);
        parts("fun f(){x=any(2,1);}", 6, 2);
        fault("fun f(){x=any();}", 14);
        fault("fun f(){x=any(1);}", 15);
        fault("fun f(){x=any(1,);}", 16);
        fault("fun f(){x=any(1,2,3);}", 17);
        fault("fun f(){x=any(--1,2);}", 15);
        fault("fun f(){x=any(1,--2);}", 17);
        fault("fun f(){x=any(a,2);}", 14);
        fault("fun f(){x=any(1,a);}", 16);
        fault("fun f(){x=any(-a,2);}", 15);
        fault("fun f(){x=any(-,2);}", 15);
    }

    private static void boths() {
        CHECKS.sentence("A COND is BOTHs with || between");
        fault("fun f(){assert();}", 15);
        parts("fun f(){assert(1<1||1<1);}", 5, 2);
        parts("fun f(){assert(1<1||1<1||1<1);}", 5, 3);
        parts("fun f(){assert(1<1" + Checks.repeat("||1<1", 1595) + ");}", 5, 1596);
        fault("fun f(){assert(1<1||);}", 20);
        fault("fun f(){assert(||1<1);}", 15);
        fault("fun f(){assert(1<1||||1<1);}", 20);
    }

    private static void tests() {
        CHECKS.sentence("a BOTH is TESTs with && between");
        parts("fun f(){assert(1<1&&1<1);}", 5, 2);
        parts("fun f(){assert(1<1&&1<1&&1<1);}", 5, 3);
        parts("fun f(){assert(1<1" + Checks.repeat("&&1<1", 1595) + ");}", 5, 1596);
        fault("fun f(){assert(1<1&&);}", 20);
        fault("fun f(){assert(&&1<1);}", 15);
        fault("fun f(){assert(1<1&&||1<1);}", 20);
    }

    private static void blocksOfIf() {
        CHECKS.sentence("if ( COND ) BLOCK      if ( COND ) BLOCK else BLOCK");
        fault("fun f(){if(1<2)}", 15);
        parts("fun f(){if(1<2){}}", 4, 2);
        parts("fun f(){if(1<2){}else{}}", 4, 3);
        fault("fun f(){if(1<2){}{}}", 17);
        fault("fun f(){if(1<2){}else}", 21);
        fault("fun f(){if(1<2){}else{}else{}}", 23);
    }

    private static void parts(String text, int k, int due) {
        Sitting reader = new Sitting();
        CHECKS.equal("fault of " + text, Checks.readText(reader, 0, text), -1);
        CHECKS.equal("parts of " + k + " in " + text, reader.node(0, k, 4), due);
        int next = due == 0 ? -1 : k + 1;
        CHECKS.equal("first part of " + k, reader.part(0, k, 0), next);
        int last = reader.part(0, k, due - 1);
        CHECKS.equal("whole of the last part", due == 0 ? k : reader.whole(0, last), k);
        CHECKS.equal("part behind the last", reader.part(0, k, due), -1);
    }

    private static void functionFaults() {
        CHECKS.sentence("fun NAME ( ) BLOCK, or fun NAME ( NAMES ) BLOCK");
        fault("f(){}", 0);
        fault("{}", 0);
        fault("fun (){}", 4);
        fault("fun f{}", 5);
        fault("fun f){}", 5);
        fault("fun f(,){}", 6);
        fault("fun f(a,){}", 8);
        fault("fun f(a b){}", 8);
        fault("fun f(a,,b){}", 8);
        fault("fun f(1){}", 6);
        fault("fun f(a,a,f){}", -1);
        fault("fun f()x=1;", 7);
        fault("fun f(){};", 9);
        fault("fun f(){}}", 9);
        fault("fun f(){}x", 9);
        fault("fun f(){fun g(){}}", 8);
        fault("fun f(){{}}", 8);
        fault("fun f(){;}", 8);
    }

    private static void statementFaults() {
        CHECKS.sentence("STATEMENTs");
        fault("fun f(){var;}", 11);
        fault("fun f(){var x}", 13);
        fault("fun f(){var x,y;}", 13);
        fault("fun f(){var x=;}", 14);
        fault("fun f(){var x=g(1);}", 15);
        fault("fun f(){var x[];}", 14);
        fault("fun f(){var x[n];}", 14);
        fault("fun f(){var x[-1];}", 14);
        fault("fun f(){var x[1+1];}", 15);
        fault("fun f(){var x[1]=2;}", 16);
        fault("fun f(){var x[0];}", -1);
        fault("fun f(){x;}", 9);
        fault("fun f(){x+1;}", 9);
        fault("fun f(){x}", 9);
        fault("fun f(){x=;}", 10);
        fault("fun f(){x=1}", 11);
        fault("fun f(){x=y}", 11);
        fault("fun f(){x=y z;}", 12);
        fault("fun f(){x=y=z;}", 11);
        fault("fun f(){x[1;}", 11);
        fault("fun f(){x[];}", 10);
        fault("fun f(){x[1];}", 12);
        fault("fun f(){x[1]=g(2);}", 14);
        fault("fun f(){x[1](2);}", 12);
        fault("fun f(){x=g(1)+2;}", 14);
        fault("fun f(){x=g(1);}", -1);
        fault("fun f(){x=g//(\n(1);}", -1);
        fault("fun f(){x=(g)(1);}", 13);
        fault("fun f(){x=2+g(1);}", 13);
        fault("fun f(){x=-g(1);}", 12);
        fault("fun f(){g(1,);}", 12);
        fault("fun f(){g(,1);}", 10);
        fault("fun f(){g(1 2);}", 12);
        fault("fun f(){g(h(1));}", 11);
        fault("fun f(){g(1)}", 12);
        fault("fun f(){g()+1;}", 11);
        fault("fun f(){x=g()}", 13);
        fault("fun f(){any();}", 8);
        fault("fun f(){1=x;}", 8);
        fault("fun f(){if x<1{}}", 11);
        fault("fun f(){if(){}}", 11);
        fault("fun f(){if(x<1)x=1;}", 15);
        fault("fun f(){if(x<1){}else x=1;}", 22);
        fault("fun f(){if(x<1){}else if(x<2){}}", 22);
        fault("fun f(){if(x<1){}else{}else{}}", 23);
        fault("fun f(){if(x<1){};}", 17);
        fault("fun f(){else{}}", 8);
        fault("fun f(){while(x<1);}", 18);
        fault("fun f(){while(x<1){}else{}}", 20);
        fault("fun f(){assert(x<1){}}", 19);
        fault("fun f(){assert x<1;}", 15);
        fault("fun f(){return;}", 14);
        fault("fun f(){return x}", 16);
        fault("fun f(){return g(1);}", 16);
        fault("fun f(){return x<1;}", 16);
        fault("fun f(){return(x);}", -1);
    }

    private static void sumFaults() {
        CHECKS.sentence("A SUM is .. a TERM is .. a FACTOR is ..");
        fault("fun f(){x=1+;}", 12);
        fault("fun f(){x=+1;}", 10);
        fault("fun f(){x=1*;}", 12);
        fault("fun f(){x=*1;}", 10);
        fault("fun f(){x=1**2;}", 12);
        fault("fun f(){x=1+-2--3*-4;}", -1);
        fault("fun f(){x=();}", 11);
        fault("fun f(){x=(1;}", 12);
        fault("fun f(){x=1);}", 11);
        fault("fun f(){x=(1,2);}", 12);
        fault("fun f(){x=(1<2);}", 12);
        fault("fun f(){x=[1];}", 10);
        fault("fun f(){x=!1;}", 10);
        fault("fun f(){x=a[1][2];}", 14);
        fault("fun f(){x=a[1,2];}", 13);
        fault("fun f(){x=1[2];}", 11);
        fault("fun f(){x=(a)[2];}", 13);
        fault("fun f(){x=any();}", 14);
        fault("fun f(){x=any(1);}", 15);
        fault("fun f(){x=any(1,);}", 16);
        fault("fun f(){x=any(1,2,3);}", 17);
        fault("fun f(){x=any(a,2);}", 14);
        fault("fun f(){x=any(--1,2);}", 15);
        fault("fun f(){x=any((1),2);}", 14);
        fault("fun f(){x=any(1+1,2);}", 15);
        fault("fun f(){x=any(+1,2);}", 14);
        fault("fun f(){x=any(-2147483648,2);}", 15);
        fault("fun f(){x=any(-2147483647,-0)*any+any//\n(5,-5);}", -1);
        fault("fun f(){x=any[1];}", 13);
        fault("fun f(){x=fun;}", 10);
    }

    private static void conditionFaults() {
        CHECKS.sentence("A COND is .. a BOTH is .. a TEST is ..");
        fault("fun f(){if(x){}}", 12);
        fault("fun f(){if(x<1<2){}}", 14);
        fault("fun f(){if(x=1){}}", 12);
        fault("fun f(){if((x<1)){}}", 13);
        fault("fun f(){if((x)<(1)){}}", -1);
        fault("fun f(){if([x]<1){}}", 13);
        fault("fun f(){if([x<1]<2){}}", 16);
        fault("fun f(){if([x<1){}}", 15);
        fault("fun f(){if([]){}}", 12);
        fault("fun f(){if(x<1]){}}", 14);
        fault("fun f(){if(x<){}}", 13);
        fault("fun f(){if(<x){}}", 11);
        fault("fun f(){if(x<1&&){}}", 16);
        fault("fun f(){if(&&x<1){}}", 11);
        fault("fun f(){if(x<1||){}}", 16);
        fault("fun f(){if(x<1&&y){}}", 17);
        fault("fun f(){if(!){}}", 12);
        fault("fun f(){if(!x){}}", 13);
        fault("fun f(){if(!(x<1)){}}", 14);
        fault("fun f(){if(!x<1){}}", -1);
        fault("fun f(){if(!![!x<1]){}}", -1);
        fault("fun f(){if(x!<1){}}", 12);
        fault("fun f(){if(x<1!){}}", 14);
        fault("fun f(){if(x<!1){}}", 13);
        fault("fun f(){if(x<[1]){}}", 13);
        fault("fun f(){if(x<1,y<2){}}", 14);
        fault("fun f(){if(g(1)<2){}}", 12);
    }

    // Behind every beginning of a program with all there is, each token there is.
    private static void everyNextToken() {
        CHECKS.sentence("a token with which no text, of any depth, goes on");
        String[] programs = {
            "fun f ( a , b ) { var x ; var x = 1 ; var x [ 2 ] ; x = y ; x = y [ 1 ] ; a [ 1 ] = 2 ; }",
            "fun f ( a ) { x = g ( ) ; x = g ( 1 , - 2 ) ; g ( ) ; g ( a [ 1 ] , b ) ; } fun g ( ) { }",
            "fun f ( ) { if ( 1 < 2 ) { g ( ) ; } if ( 1 <= 2 ) { } else { x = 1 ; } while ( 1 > 2 ) { } }",
            "fun f ( ) { assert ( ! 1 >= 2 && [ 1 == 2 ] || [ 1 != 2 || ! [ a < b ] ] && 3 < 4 ) ; }",
            "fun f ( ) { return 1 + a * - b - ( 2 / 3 % any ) * any ( - 1 , 2 ) ; return ( a ) ; }",
        };
        for (String program : programs) {
            List<String> tokens = Arrays.asList(program.split(" "));
            for (int count = 0; count <= tokens.size(); count++) {
                for (String token : ALL_TOKENS) {
                    List<String> row = new ArrayList<>(tokens.subList(0, count));
                    row.add(token);
                    String text = String.join(" ", row);
                    fault(text, Grammar.fault(row, text.length()));
                }
            }
        }
    }

    private static void fault(String text, int due) {
        CHECKS.equal("fault of " + text, Checks.fault(text), due);
    }
}
