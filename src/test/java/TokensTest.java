import java.util.Arrays;

/** Terms: NAMEs, WORDS, NUMBERs and SIGNS, with both sides of each edge. */
public final class TokensTest {
    private static final Checks CHECKS = new Checks("tokens");

    // Everywhere a NAME may stand, at the mark; one blank between tokens.
    private static final String[] NAME_PLACES = {"fun @ ( ) { }", "fun f ( @ ) { }", "fun f ( a , @ ) { }",
        "fun f ( @ , a ) { }", "fun f ( ) { var @ ; }", "fun f ( ) { var @ = 1 ; }",
        "fun f ( ) { var @ [ 1 ] ; }", "fun f ( ) { @ = 1 ; }", "fun f ( ) { @ [ 1 ] = 1 ; }",
        "fun f ( ) { @ = g ( ) ; }", "fun f ( ) { x = @ ( ) ; }", "fun f ( ) { @ ( ) ; }",
        "fun f ( ) { g ( @ ) ; }", "fun f ( ) { x = g ( 1 , @ ) ; }", "fun f ( ) { x = @ ; }",
        "fun f ( ) { x = @ [ 1 ] ; }", "fun f ( ) { x = a [ @ ] ; }", "fun f ( ) { x = - @ ; }",
        "fun f ( ) { x = ( @ ) ; }", "fun f ( ) { x = 1 + @ ; }", "fun f ( ) { x = @ * 2 ; }",
        "fun f ( ) { a [ @ ] = 1 ; }", "fun f ( ) { a [ 1 ] = @ ; }", "fun f ( ) { return @ ; }",
        "fun f ( ) { if ( @ < 1 ) { } }", "fun f ( ) { while ( 1 < @ ) { } }",
        "fun f ( ) { assert ( ! [ @ == 1 ] ) ; }"};

    // Everywhere a NUMBER may stand, at the mark.
    private static final String[] NUMBER_PLACES = {"fun f(){var x=@;}", "fun f(){var x[@];}", "fun f(){x=@;}",
        "fun f(){x[@]=1;}", "fun f(){x[1]=@;}", "fun f(){x=g(@);}", "fun f(){g(1,@);}", "fun f(){return @;}",
        "fun f(){x=any(@,1);}", "fun f(){x=any(1,@);}", "fun f(){x=any(-@,1);}", "fun f(){x=any(1,- @);}",
        "fun f(){x=-@;}", "fun f(){x=(@);}", "fun f(){x=a[@];}", "fun f(){x=1+@;}", "fun f(){x=@-1;}",
        "fun f(){x=1%@;}", "fun f(){if(@<1){}}", "fun f(){while(1<@){}}", "fun f(){assert(![@==1]);}"};

    private static final String[] WORDS = {"fun", "var", "if", "else", "while", "assert", "return", "any"};

    public static void main(String[] args) {
        firstByteOfName();
        otherBytesOfName();
        lengthOfName();
        longNameCutByRead();
        words();
        greatestNumber();
        zeroInFront();
        letterBehindNumber();
        allDigits();
        numberCutByRead();
        signs();
        longestSign();
        noSign();
        signCutByRead();
        CHECKS.end();
    }

    private static boolean isLetter(int b) {
        return b >= 'A' && b <= 'Z' || b >= 'a' && b <= 'z' || b == '_';
    }

    private static boolean isDigit(int b) {
        return b >= '0' && b <= '9';
    }

    private static boolean isBlank(int b) {
        return b == 9 || b == 10 || b == 13 || b == 32;
    }

    private static void firstByteOfName() {
        CHECKS.sentence("NAMEs (a letter, A to Z or a to z, or _");
        for (int b = 0; b < 256; b++) {
            fault("fun " + (char) b + "(){}", isLetter(b) ? -1 : isBlank(b) ? 5 : 4);
            fault("fun f(){x= " + (char) b + ";}", isLetter(b) || isDigit(b) ? -1 : wrongFactor(b));
        }
    }

    // Behind - or ( or a blank it is the ; that is wrong.
    private static int wrongFactor(int b) {
        return b == '-' || b == '(' || isBlank(b) ? 12 : 11;
    }

    private static void otherBytesOfName() {
        CHECKS.sentence("then letters, digits, _");
        for (int b = 0; b < 256; b++) {
            boolean joins = isLetter(b) || isDigit(b);
            fault("fun a" + (char) b + "(){}", joins || isBlank(b) ? -1 : b == '(' ? 6 : 5);
            Sitting reader = new Sitting();
            Checks.readText(reader, 0, "fun a" + (char) b + "(){}");
            String due = joins ? "a" + (char) b : isBlank(b) ? "a" : "";
            CHECKS.equal("name with byte " + b, Checks.allNames(reader), due);
        }
        fault("fun _(){}fun __(){}fun _0(){}fun a9Z_z(){}", -1);
        fault("fun 0a(){}", 4);
        fault("fun 9(){}", 4);
    }

    private static void lengthOfName() {
        CHECKS.sentence("at most 30 bytes");
        for (String place : NAME_PLACES) {
            int at = place.indexOf('@');
            fault(place.replace("@", "n"), -1);
            fault(place.replace("@", Checks.repeat("n", 29)), -1);
            fault(place.replace("@", Checks.repeat("n", 30)), -1);
            fault(place.replace("@", Checks.repeat("n", 31)), at);
            fault(place.replace("@", Checks.repeat("n", 32)), at);
            fault(place.replace("@", "_" + Checks.repeat("0", 29)), -1);
            fault(place.replace("@", "_" + Checks.repeat("0", 30)), at);
            fault(place.replace("@", Checks.repeat("Z", 30) + "_"), at);
            fault(place.replace("@", Checks.repeat("n", 7900)), at);
        }
        CHECKS.sentence("a byte at which there is no token (that of a NAME .. that is too long ..)");
        fault("fun f(){return" + Checks.repeat("x", 24) + ";}", 38);
        fault("fun f(){return" + Checks.repeat("x", 25) + ";}", 8);
        fault("fun f(){" + Checks.repeat("n", 30) + " n=1;}", 39);
        fault(Checks.repeat("n", 31), 0);
        fault("fun f(){}" + Checks.repeat("n", 31), 9);
        Sitting reader = new Sitting();
        String longest = "_" + Checks.repeat("aZ09_", 5) + "wxyz";
        Checks.readText(reader, 0, "fun " + longest + "(" + longest.substring(1) + "){}");
        CHECKS.equal("both names whole", Checks.allNames(reader), longest + " " + longest.substring(1));
        // They differ in the 30th byte alone.
        Checks.readText(reader, 1, "fun " + longest.substring(0, 29) + "y(){}");
        CHECKS.equal("another name", reader.names(), 3);
        CHECKS.equal("its last byte", reader.spelt(2, 29), 'y');
    }

    private static void longNameCutByRead() {
        CHECKS.sentence("The first n bytes .. are read");
        String text = "fun " + Checks.repeat("n", 31) + "(){}";
        cut(text, 34, 34);
        cut(text, 35, 4);
        cut("fun fun(){}", 6, 6);
        cut("fun fun(){}", 7, 4);
        cut("fun funs(){}", 7, 4);
        cut("fun funs(){}", 8, 8);
    }

    private static void words() {
        CHECKS.sentence("but fun, var, if, else, while, assert, return and any are WORDS");
        for (String word : WORDS) {
            for (String place : NAME_PLACES) {
                String text = place.replace("@", word);
                fault(text, Grammar.fault(Arrays.asList(text.split(" ")), text.length()));
            }
            String[] names = {word + "0", word + "_", word + "x", "_" + word, "x" + word, word + word,
                word.substring(0, word.length() - 1), word.substring(1), word.toUpperCase(),
                word.substring(0, 1).toUpperCase() + word.substring(1)};
            for (String name : names) {
                Sitting reader = new Sitting();
                CHECKS.equal("name " + name, Checks.readText(reader, 0, "fun " + name + "(){}"), -1);
                CHECKS.equal("spelt", Checks.allNames(reader), name);
            }
        }
    }

    private static void greatestNumber() {
        CHECKS.sentence("up to 2147483647");
        String[] good = {"0", "1", "9", "10", "99", "100", "999999999", "1000000000", "1999999999",
            "2147483639", "2147483640", "2147483646", "2147483647"};
        String[] great = {"2147483648", "2147483649", "2147483650", "2147483657", "2147483700", "2147484647",
            "2200000000", "3000000000", "4294967295", "4294967296", "4294967297", "6442450943", "6442450944",
            "9999999999", "10000000000", "21474836470", "21474836471", "100000000000", "9223372036854775807",
            "9223372036854775808", "18446744073709551615", "18446744073709551616", "18446744073709551617",
            "36893488147419103233", "99999999999999999999", "1" + Checks.repeat("0", 64)};
        for (String place : NUMBER_PLACES) {
            for (String number : good) {
                fault(place.replace("@", number), -1);
            }
            for (String number : great) {
                fault(place.replace("@", number), place.indexOf('@'));
            }
        }
        for (String number : good) {
            value("fun f(){x=" + number + ";}", 6, number);
            value("fun f(){var x[" + number + "];}", 6, number);
            value("fun f(){x=any(" + number + ",1);}", 7, number);
            value("fun f(){x=any(-" + number + ",1);}", 7, "" + -Integer.parseInt(number));
            value("fun f(){x=any(1,- " + number + ");}", 8, "" + -Integer.parseInt(number));
        }
        fault("fun f(){x=-2147483648;}", 11);
    }

    private static void value(String text, int k, String due) {
        Sitting reader = new Sitting();
        Checks.readText(reader, 0, text);
        CHECKS.equal("kind in " + text, reader.node(0, k, 0), 12);
        CHECKS.equal("value in " + text, Integer.toString(reader.node(0, k, 2)), due);
    }

    private static void zeroInFront() {
        CHECKS.sentence("0 in front for 0 alone");
        String[] wrong = {"00", "01", "09", "000", "007", "0123456789", "02147483647", "0000000000000000000001",
            Checks.repeat("0", 500)};
        for (String place : NUMBER_PLACES) {
            fault(place.replace("@", "0"), -1);
            fault(place.replace("@", "10"), -1);
            for (String number : wrong) {
                fault(place.replace("@", number), place.indexOf('@'));
            }
        }
        fault("fun f(){x=0 0;}", 12);
        fault("fun f(){x=0-0;}", -1);
    }

    private static void letterBehindNumber() {
        CHECKS.sentence("no letter or _ behind");
        for (String place : NUMBER_PLACES) {
            String[] wrong = {"1a", "1z", "1A", "1Z", "1_", "0_", "0x", "0x1", "12e3", "2147483647L", "1if", "1__"};
            for (String number : wrong) {
                fault(place.replace("@", number), place.indexOf('@'));
            }
        }
        for (int b = 0; b < 256; b++) {
            fault("fun f(){x=1" + (char) b + ";}", faultBehindNumber(b));
        }
        fault("fun f(){x=1 a;}", 12);
        fault("fun f(){x=1//\na;}", 14);
        fault("fun f(){assert(1<a);}", -1);
        fault("fun f(){x=1.5;}", 11);
    }

    private static int faultBehindNumber(int b) {
        if (isBlank(b) || isDigit(b)) {
            return -1;
        }
        if ("+-*/%;".indexOf(b) >= 0) {
            return 12;
        }
        return isLetter(b) ? 10 : 11;
    }

    private static void allDigits() {
        CHECKS.sentence("NUMBERs (all the digits that stand there");
        fault("fun f(){x=1234567890;}", -1);
        fault("fun f(){x=12345678901;}", 10);
        fault("fun f(){x=" + Checks.repeat("9", 7900) + ";}", 10);
        fault("fun f(){x=" + Checks.repeat("1", 7988), 10);
        value("fun f(){x=1234567890;}", 6, "1234567890");
    }

    private static void numberCutByRead() {
        CHECKS.sentence("The first n bytes .. are read");
        cut("fun f(){x=2147483648;}", 19, 19);
        cut("fun f(){x=2147483648;}", 20, 10);
        cut("fun f(){x=00;}", 11, 11);
        cut("fun f(){x=00;}", 12, 10);
        cut("fun f(){x=1a;}", 11, 11);
        cut("fun f(){x=1a;}", 12, 10);
    }

    private static void signs() {
        CHECKS.sentence("the SIGNS ( ) { } [ ] , ; = + - * / % < <= > >= == != && || !");
        fault("fun f(a,b){x=a[1]+2-3*4/5%6;}", -1);
        fault("fun f(){assert(1<2&&1<=2&&1>2||1>=2||1==2&&!1!=2);}", -1);
        for (int b = 0; b < 256; b++) {
            fault("fun f(){" + (char) b + "}", isBlank(b) ? -1 : isLetter(b) || b == '}' ? 9 : 8);
        }
    }

    private static void longestSign() {
        CHECKS.sentence("TOKENS are the longest that can be read at a place");
        String[] relations = {"<", "<=", ">", ">=", "==", "!="};
        for (int i = 0; i < relations.length; i++) {
            Sitting reader = new Sitting();
            String text = "fun f(){assert(1" + relations[i] + "2);}";
            CHECKS.equal(text, Checks.readText(reader, 0, text), -1);
            CHECKS.equal("kind in " + text, reader.node(0, 5, 0), 27 + i);
            fault("fun f(){assert(1" + relations[i] + "-2);}", -1);
            fault("fun f(){assert(1" + relations[i] + "=2);}", relations[i].length() == 1 ? -1 : 18);
        }
        fault("fun f(){assert(1<<2);}", 17);
        fault("fun f(){assert(1<>2);}", 17);
        fault("fun f(){assert(1=<2);}", 16);
        fault("fun f(){assert(1=>2);}", 16);
        fault("fun f(){assert(1===2);}", 18);
        fault("fun f(){assert(!=1<2);}", 15);
        fault("fun f(){assert(! =1<2);}", 17);
        fault("fun f(){assert(!!1<2);}", -1);
        fault("fun f(){x==1;}", 9);
        fault("fun f(){x= =1;}", 11);
        fault("fun f(){x=!1;}", 10);
        fault("fun f(){x=1--2;}", -1);
        fault("fun f(){x=1++2;}", 12);
        fault("fun f(){assert(1<2&&&3<4);}", 20);
        fault("fun f(){assert(1<2|||3<4);}", 20);
        fault("fun f(){assert(1<2&&&&3<4);}", 20);
    }

    private static void noSign() {
        CHECKS.sentence("a byte at which there is no token");
        fault("fun f(){assert(1<2&3<4);}", 18);
        fault("fun f(){assert(1<2|3<4);}", 18);
        fault("fun f(){assert(1<2&", 18);
        fault("fun f(){assert(1<2|", 18);
        fault("fun f(){assert(1<2&|3<4);}", 18);
        fault("fun f(){x=\"a\";}", 10);
        String none = "#$.:?@\\^`~'\"&|\0\200\377\013\f\240";
        for (int i = 0; i < none.length(); i++) {
            char b = none.charAt(i);
            fault(b + "", 0);
            fault("fun" + b + "f(){}", 3);
            fault("fun f(){x=1" + b + "+2;}", 11);
            fault("fun f(){x=1+" + b + "2;}", 12);
            fault("fun f(){x=1;" + b + "}", 12);
            fault("fun f(){}" + b, 9);
        }
    }

    private static void signCutByRead() {
        CHECKS.sentence("The first n bytes .. are read");
        cut("fun f(){assert(1<2&&3", 19, 18);
        cut("fun f(){assert(1<2&&3", 20, 20);
        cut("fun f(){assert(1<2||3", 19, 18);
        cut("fun f(){assert(1<2||3", 20, 20);
        cut("fun f(){assert(1==2", 17, 16);
        cut("fun f(){assert(1==2", 18, 18);
        cut("fun f(){assert(1!=2", 17, 16);
        cut("fun f(){assert(1!=2", 18, 18);
        cut("fun f(){assert(1<==", 18, 18);
        cut("fun f(){assert(1<==", 19, 18);
        cut("fun f(){x==", 10, 10);
        cut("fun f(){x==", 11, 9);
    }

    private static void cut(String text, int n, int due) {
        Sitting reader = new Sitting();
        Checks.feedText(reader, text);
        CHECKS.equal("fault of the first " + n + " of " + text, reader.read(0, n), due);
    }

    private static void fault(String text, int due) {
        CHECKS.equal("fault of " + text, Checks.fault(text), due);
    }
}
