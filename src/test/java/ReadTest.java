/** Promise 3: what is read, where the fault lies, and what a refused read leaves alone. */
public final class ReadTest {
    private static final Checks CHECKS = new Checks("read");

    public static void main(String[] args) {
        arguments();
        layout();
        tokens();
        functionFaults();
        statementFaults();
        sumFaults();
        conditionFaults();
        ends();
        keptFunctions();
        CHECKS.end();
    }

    private static void arguments() {
        ProgramReader reader = new ProgramReader();
        CHECKS.equal("no bytes", reader.read(0, 0), 0);
        CHECKS.equal("no bytes, all", reader.read(1, -1), 0);
        CHECKS.equal("a text", Checks.readText(reader, 0, "fun f(){}"), -1);
        Checks.feedText(reader, "fun g(a){}fun h(){}");
        int[][] refused = {
            {-1, 5}, {2, 5}, {Integer.MAX_VALUE, 5}, {Integer.MIN_VALUE, -1}, {2, -1}, {-2, 0},
            {0, -2}, {0, 21}, {1, Integer.MAX_VALUE}, {1, Integer.MIN_VALUE}, {3, 99},
        };
        for (int[] pair : refused) {
            CHECKS.equal("read(" + pair[0] + ", " + pair[1] + ")", reader.read(pair[0], pair[1]), -2);
        }
        CHECKS.equal("tree 0 as it was", Checks.writeText(reader, 0, 0), "fun f(){}");
        CHECKS.equal("no new name", reader.names(), 1);
        CHECKS.equal("the bytes are there", reader.read(1, 10), -1);
        CHECKS.equal("the first 10 alone", Checks.writeText(reader, 1, 0), "fun g(a){}");
        CHECKS.equal("all bytes are gone", reader.read(1, 1), -2);
        CHECKS.equal("tree 0 is not tree 1", Checks.writeText(reader, 0, 0), "fun f(){}");
        Checks.feedText(reader, "fun h(){}");
        CHECKS.equal("none of 20", reader.read(1, 0), 0);
        CHECKS.equal("in place of what it was", reader.nodes(1), 1);
        CHECKS.equal("gone", reader.read(1, 1), -2);
        Checks.feedText(reader, "fun h(){}");
        CHECKS.equal("all, with 11 blanks", reader.read(1, -1), -1);
        Checks.feedText(reader, "fun h(){}");
        CHECKS.equal("cut within", reader.read(1, 8), 8);
    }

    private static void layout() {
        fault("fun f ( a , b ) { } ", -1);
        fault("\tfun\nf\r(\n)\t{\r\n}\n", -1);
        fault("//\nfun//x\nf//fun\n(//)\n)//\n{////\n}//", -1);
        fault("fun f(){}//no end \r fun", -1);
        fault("fun f(){}// \200\377\0 ;\n", -1);
        fault("fun f(){x=6/2;}", -1);
        fault("fun f(){x=6//2;}", 16);
        fault("fun f(){x=6//2;}\n;}", -1);
        fault("fun f(){x=6/ /2;}", 13);
        fault("fun f(){x=6/", 12);
        fault("\013fun f(){}", 0);
        fault("fun f(){}\0", 9);
        fault("fun f()\f{}", 7);
        fault("fun f(){\240}", 8);
        fault("fun f(){}/", 9);
        fault("fun f(){}/ /", 9);
    }

    private static void tokens() {
        fault("funf(){}", 0);
        fault("fun fun(){}", 4);
        fault("fun funs(_,__,_9,A,Z,a,z,vary,If,any1){}", -1);
        fault("fun f(9a){}", 6);
        String[] words = {"fun", "var", "if", "else", "while", "assert", "return", "any"};
        for (String word : words) {
            fault("fun " + word + "(){}", 4);
            fault("fun f(" + word + "){}", 6);
            fault("fun f(" + word + "0){}", -1);
            fault("fun f(){var " + word + ";}", 12);
        }
        fault("fun " + Checks.repeat("n", 30) + "(){}", -1);
        fault("fun " + Checks.repeat("n", 31) + "(){}", 4);
        fault("fun f(){x=a+" + Checks.repeat("_", 31) + ";}", 12);
        fault("fun f(){x=2147483647;}", -1);
        fault("fun f(){x=2147483648;}", 10);
        fault("fun f(){x=4294967296;}", 10);
        fault("fun f(){x=4294967297;}", 10);
        fault("fun f(){x=" + Checks.repeat("9", 100) + ";}", 10);
        fault("fun f(){x=18446744073709551617;}", 10);
        fault("fun f(){x=0;}", -1);
        fault("fun f(){x=00;}", 10);
        fault("fun f(){x=0 0;}", 12);
        fault("fun f(){x=1_;}", 10);
        fault("fun f(){x=1 _;}", 12);
        fault("fun f(){x=1.5;}", 11);
        fault("fun f(){assert(1< =2);}", 18);
        fault("fun f(){assert(1<==2);}", 18);
        fault("fun f(){assert(1=<2);}", 16);
        fault("fun f(){assert(1! =2);}", 16);
        fault("fun f(){assert(1<2&3<4);}", 18);
        fault("fun f(){assert(1<2& &3<4);}", 18);
        fault("fun f(){assert(1<2|3<4);}", 18);
        fault("fun f(){assert(1<2|", 18);
        fault("fun f(){assert(1<2&&&3<4);}", 20);
        fault("fun f(){x==1;}", 9);
        fault("fun f(){x=\"a\";}", 10);
        for (int b = 0; b < 256; b++) {
            fault("fun f(){x=1" + (char) b + ";}", faultBehindNumber((char) b));
        }
    }

    private static int faultBehindNumber(char b) {
        if ("\t\n\r 0123456789".indexOf(b) >= 0) {
            return -1;
        }
        if ("+-*/%;".indexOf(b) >= 0) {
            return 12;
        }
        return b < 128 && (Character.isLetter(b) || b == '_') ? 10 : 11;
    }

    private static void functionFaults() {
        fault("f(){}", 0);
        fault("{}", 0);
        fault("fun (){}", 4);
        fault("fun f{}", 5);
        fault("fun f){}", 5);
        fault("fun f(,){}", 6);
        fault("fun f(a,){}", 8);
        fault("fun f(a b){}", 8);
        fault("fun f(a,,b){}", 8);
        fault("fun f(1){}", 6);
        fault("fun f(a,a,f){}", -1);
        fault("fun f()x=1;", 7);
        fault("fun f(){};", 9);
        fault("fun f(){}}", 9);
        fault("fun f(){}x", 9);
        fault("fun f(){fun g(){}}", 8);
        fault("fun f(){{}}", 8);
        fault("fun f(){;}", 8);
    }

    private static void statementFaults() {
        fault("fun f(){var;}", 11);
        fault("fun f(){var x}", 13);
        fault("fun f(){var x,y;}", 13);
        fault("fun f(){var x=;}", 14);
        fault("fun f(){var x=g(1);}", 15);
        fault("fun f(){var x[];}", 14);
        fault("fun f(){var x[n];}", 14);
        fault("fun f(){var x[-1];}", 14);
        fault("fun f(){var x[1+1];}", 15);
        fault("fun f(){var x[1]=2;}", 16);
        fault("fun f(){var x[0];}", -1);
        fault("fun f(){x;}", 9);
        fault("fun f(){x+1;}", 9);
        fault("fun f(){x}", 9);
        fault("fun f(){x=;}", 10);
        fault("fun f(){x=1}", 11);
        fault("fun f(){x=y}", 11);
        fault("fun f(){x=y z;}", 12);
        fault("fun f(){x=y=z;}", 11);
        fault("fun f(){x[1;}", 11);
        fault("fun f(){x[];}", 10);
        fault("fun f(){x[1];}", 12);
        fault("fun f(){x[1]=g(2);}", 14);
        fault("fun f(){x[1](2);}", 12);
        fault("fun f(){x=g(1)+2;}", 14);
        fault("fun f(){x=g(1);}", -1);
        fault("fun f(){x=g//(\n(1);}", -1);
        fault("fun f(){x=(g)(1);}", 13);
        fault("fun f(){x=2+g(1);}", 13);
        fault("fun f(){x=-g(1);}", 12);
        fault("fun f(){g(1,);}", 12);
        fault("fun f(){g(,1);}", 10);
        fault("fun f(){g(1 2);}", 12);
        fault("fun f(){g(h(1));}", 11);
        fault("fun f(){g(1)}", 12);
        fault("fun f(){g()+1;}", 11);
        fault("fun f(){x=g()}", 13);
        fault("fun f(){any();}", 8);
        fault("fun f(){1=x;}", 8);
        fault("fun f(){if x<1{}}", 11);
        fault("fun f(){if(){}}", 11);
        fault("fun f(){if(x<1)x=1;}", 15);
        fault("fun f(){if(x<1){}else x=1;}", 22);
        fault("fun f(){if(x<1){}else if(x<2){}}", 22);
        fault("fun f(){if(x<1){}else{}else{}}", 23);
        fault("fun f(){if(x<1){};}", 17);
        fault("fun f(){else{}}", 8);
        fault("fun f(){while(x<1);}", 18);
        fault("fun f(){while(x<1){}else{}}", 20);
        fault("fun f(){assert(x<1){}}", 19);
        fault("fun f(){assert x<1;}", 15);
        fault("fun f(){return;}", 14);
        fault("fun f(){return x}", 16);
        fault("fun f(){return g(1);}", 16);
        fault("fun f(){return x<1;}", 16);
        fault("fun f(){return(x);}", -1);
    }

    private static void sumFaults() {
        fault("fun f(){x=1+;}", 12);
        fault("fun f(){x=+1;}", 10);
        fault("fun f(){x=1*;}", 12);
        fault("fun f(){x=*1;}", 10);
        fault("fun f(){x=1**2;}", 12);
        fault("fun f(){x=1+-2--3*-4;}", -1);
        fault("fun f(){x=();}", 11);
        fault("fun f(){x=(1;}", 12);
        fault("fun f(){x=1);}", 11);
        fault("fun f(){x=(1,2);}", 12);
        fault("fun f(){x=(1<2);}", 12);
        fault("fun f(){x=[1];}", 10);
        fault("fun f(){x=!1;}", 10);
        fault("fun f(){x=a[1][2];}", 14);
        fault("fun f(){x=a[1,2];}", 13);
        fault("fun f(){x=1[2];}", 11);
        fault("fun f(){x=(a)[2];}", 13);
        fault("fun f(){x=any();}", 14);
        fault("fun f(){x=any(1);}", 15);
        fault("fun f(){x=any(1,);}", 16);
        fault("fun f(){x=any(1,2,3);}", 17);
        fault("fun f(){x=any(a,2);}", 14);
        fault("fun f(){x=any(--1,2);}", 15);
        fault("fun f(){x=any((1),2);}", 14);
        fault("fun f(){x=any(1+1,2);}", 15);
        fault("fun f(){x=any(+1,2);}", 14);
        fault("fun f(){x=any(-2147483648,2);}", 15);
        fault("fun f(){x=any(-2147483647,-0)*any+any//\n(5,-5);}", -1);
        fault("fun f(){x=any[1];}", 13);
        fault("fun f(){x=fun;}", 10);
    }

    private static void conditionFaults() {
        fault("fun f(){if(x){}}", 12);
        fault("fun f(){if(x<1<2){}}", 14);
        fault("fun f(){if(x=1){}}", 12);
        fault("fun f(){if((x<1)){}}", 13);
        fault("fun f(){if((x)<(1)){}}", -1);
        fault("fun f(){if([x]<1){}}", 13);
        fault("fun f(){if([x<1]<2){}}", 16);
        fault("fun f(){if([x<1){}}", 15);
        fault("fun f(){if([]){}}", 12);
        fault("fun f(){if(x<1]){}}", 14);
        fault("fun f(){if(x<){}}", 13);
        fault("fun f(){if(<x){}}", 11);
        fault("fun f(){if(x<1&&){}}", 16);
        fault("fun f(){if(&&x<1){}}", 11);
        fault("fun f(){if(x<1||){}}", 16);
        fault("fun f(){if(x<1&&y){}}", 17);
        fault("fun f(){if(!){}}", 12);
        fault("fun f(){if(!x){}}", 13);
        fault("fun f(){if(!(x<1)){}}", 14);
        fault("fun f(){if(!x<1){}}", -1);
        fault("fun f(){if(!![!x<1]){}}", -1);
        fault("fun f(){if(x!<1){}}", 12);
        fault("fun f(){if(x<1!){}}", 14);
        fault("fun f(){if(x<!1){}}", 13);
        fault("fun f(){if(x<[1]){}}", 13);
        fault("fun f(){if(x<1,y<2){}}", 14);
        fault("fun f(){if(g(1)<2){}}", 12);
    }

    // At each cut that leaves the last function open, the fault is the end of the text itself.
    private static void ends() {
        String text = "fun f ( a ) { if ( x < 1 ) { x = g ( 1 , a [ 2 ] ) ; } else { return - 1 ; } }";
        for (int n = 3; n < text.length(); n++) {
            fault(text.substring(0, n), n);
        }
        fault(text, -1);
        fault("", 0);
        fault("fu", 0);
        fault(" \n ", 3);
        fault("// fun f(){}", 12);
        fault("fun f(){ // }", 13);
        fault("fun f(){} fun", 13);
    }

    private static void keptFunctions() {
        ProgramReader reader = new ProgramReader();
        String text = "fun f(a){b=c;}fun g(d,a){e=f+;h=i;}fun j(){}";
        CHECKS.equal("fault", Checks.readText(reader, 0, text), 29);
        CHECKS.equal("kept", Checks.writeText(reader, 0, 0), "fun f(a){b=c;}");
        CHECKS.equal("nodes", reader.nodes(0), 8);
        CHECKS.equal("names", Checks.allNames(reader), "f a b c");
        CHECKS.equal("fault between", Checks.readText(reader, 0, "fun k(){}fun l(){} m fun n(){}"), 19);
        CHECKS.equal("kept two", Checks.writeText(reader, 0, 0), "fun k(){}fun l(){}");
        CHECKS.equal("names", Checks.allNames(reader), "f a b c k l");
        CHECKS.equal("fault in the first", Checks.readText(reader, 0, "fun o(p){"), 9);
        CHECKS.equal("none kept", reader.nodes(0), 1);
        CHECKS.equal("its name", reader.names(), 6);
        CHECKS.equal("numbered later", Checks.readText(reader, 1, "fun p(o){h=d;}"), -1);
        CHECKS.equal("names", Checks.allNames(reader), "f a b c k l p o h d");
    }

    private static void fault(String text, int due) {
        CHECKS.equal("fault of " + text, Checks.readText(new ProgramReader(), 0, text), due);
    }
}
