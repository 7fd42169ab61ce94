/** "Terms", section 3, and promises 2 to 7: the tape, texts and their faults, writing, at the bounds. */
public final class TextsEdgesTest {
    private static final String WHERE = "Terms 3";

    public static void main(String[] args) {
        bytes();
        blanks();
        grammar();
        numbers();
        brackets();
        choicesWithTwentyOpen();
        marks();
        ends();
        sequence();
        placesOfChoices();
        faultTwo();
        lines();
        exponents();
        faultThree();
        faultFour();
        meanings();
        writtenPolynomials();
        writtenTerms();
        typing();
        reading();
        places();
        writing();
        Due.end();
    }

    /** A text with a fault, and its place. */
    private static void fault(String text, int fault, int place) {
        SumHouse h = new SumHouse();
        Due.due("reading '" + text + "'", Due.read(h, text, 0), -10 - fault);
        Due.due("the place in '" + text + "'", h.place(), place);
        Due.due("what came of '" + text + "'", h.kind(0), 0);
    }

    /** A text without one, and what is written of it. */
    private static void fine(String text, String written) {
        SumHouse h = new SumHouse();
        Due.due("reading '" + text + "'", Due.read(h, text, 0) > 0 ? 1 : 0, 1);
        Due.due("the place in '" + text + "'", h.place(), -1);
        Due.due("writing '" + text + "'", Due.text(h, 0), written);
    }

    private static void bytes() {
        Due.of(WHERE, "the bytes 0 .. 9 n k C + - * / ^ ( ) , ! and blanks (32)");
        String known = "0123456789nkC+-*/^(),! ";
        for (int sign = 0; sign < 256; sign++) {
            boolean isKnown = known.indexOf(sign) >= 0;
            SumHouse h = new SumHouse();
            h.type(sign, 1);
            int begins = h.read(0);
            h.type('(', 1);
            h.type(sign, 1);
            h.read(0);
            boolean mayBegin = sign == '(' || sign == '-' || sign == 'C' || sign == ' ';
            boolean isWhole = sign >= '0' && sign <= '9' || sign == 'n' || sign == 'k';
            Due.due("byte " + sign + " alone", begins, isWhole ? 1 : -11);
            // behind a ( those that may begin an E are fine up to the end
            Due.due("place of byte " + sign, h.place(), mayBegin || isWhole ? 2 : 1);
            h.type('n', 1);
            h.type(sign, 1);
            h.read(0);
            int end = !isKnown || isWhole || sign == '(' || sign == ')' || sign == ',' || sign == 'C' ? 1
                    : sign == '!' || sign == ' ' ? -1 : 2;
            Due.due("place of byte " + sign + " behind n", h.place(), end);
        }
    }

    private static void blanks() {
        Due.of(WHERE, "and blanks (32) between tokens, ahead of the first, behind the last");
        fine("  n  ", "n");
        fine(" - ( n + 1 ) ! ^ ( 2 ) / C ( n , k ) * 2 ^ n ", "(-1)*2^n*(k)!*(-k+n)!/(n)!*(n+1)!^2");
        fine("12 + 3", "15");
        Due.of(WHERE, "a token is as long as it can be");
        fault("1 2", 1, 2);
        fault("12 3", 1, 3);
        fault("n k", 1, 2);
        fault("nk", 1, 1);
        fault("2n", 1, 1);
        fault("n2", 1, 1);
        fault("n\t", 1, 1);
        fault("n\n", 1, 1);
    }

    private static void grammar() {
        Due.of(WHERE, "E = [-] U ((+ | -) U)*");
        fine("-n", "-n");
        fine("(-n)", "-n");
        fine("C(-n,-k)", "(1)*(-n)!/(k-n)!/(-k)!");
        fault("+n", 1, 0);
        fault("--n", 1, 1);
        fault("n*-k", 1, 2);
        fault("n+-k", 1, 2);
        fault("n^-1", 1, 2);
        fault("(+n)", 1, 1);
        fault("C(n,+k)", 1, 4);
        Due.of(WHERE, "U = W ((* | /) W)*");
        fault("*n", 1, 0);
        fault("n**k", 1, 2);
        fault("n*/k", 1, 2);
        fault("n*", 1, 2);
        Due.of(WHERE, "W = V [^ B]      V = B [!]");
        fine("k!^2", "(1)*(k)!^2");
        fine("n^2*k", "n^2*k");
        fault("n^2!", 1, 3);
        fault("n^(2)!", 1, 5);
        fault("n^2^2", 1, 3);
        fault("n^(2)^2", 1, 5);
        fault("^2", 1, 0);
        fault("!n", 1, 0);
        fault("n^", 1, 2);
        fault("n^+2", 1, 2);
        fault("n^k!", 1, 3);
        Due.of(WHERE, "B = NUMBER | n | k | ( E ) | C ( E , E )");
        fine("n^C(3,1)", "n^3");
        fine("C(3,1)!", "6");
        fine("2^n", "(1)*2^n");
        fault("()", 1, 1);
        fault("(,)", 1, 1);
        fault("C()", 1, 2);
        fault("C(n)", 1, 3);
        fault("C(n,)", 1, 4);
        fault("C(,k)", 1, 2);
        fault("C(n,k", 1, 5);
        fault("C(n,k,", 1, 5);
        fault("C(n k)", 1, 4);
        fault("(n,k)", 1, 2);
        fault("n,k", 1, 1);
        fault("Cn", 1, 1);
        fault("C", 1, 1);
        fault("C!", 1, 1);
        fault("(C(n,(k,1)))", 1, 7);
    }

    private static void numbers() {
        Due.of(WHERE, "NUMBER = one to ten digits (its rest by P)");
        fine("0", "0");
        fine("0000000007", "7");
        fine("2147483646", "-1");
        fine("2147483647", "0");
        fine("2147483648", "1");
        fine("9999999999", "-737418236");
        fine("n+1234567890", "n-912915757");
        Due.of(WHERE, "FAULT 1: the first byte with which the bytes up to it are no beginning of an E (an eleventh digit");
        fault("00000000000", 1, 10);
        fault("12345678901", 1, 10);
        fault("n+12345678901234", 1, 12);
        fine("1234567890*1234567890", Due.plain("(0-912915757)^2"));
    }

    private static void brackets() {
        Due.of(WHERE, "a 21st ( that is open, those of C too");
        fine("(".repeat(20) + "n" + ")".repeat(20), "n");
        fault("(".repeat(21) + "n" + ")".repeat(21), 1, 20);
        fine("C(".repeat(20) + "0" + ",0)".repeat(20), "1");
        fault("C(".repeat(21) + "0" + ",0)".repeat(21), 1, 41);
        fine("C(".repeat(10) + "(".repeat(10) + "0" + ")".repeat(10) + ",0)".repeat(10), "1");
        fault("C(".repeat(10) + "(".repeat(11), 1, 30);
        fine("C(1,".repeat(20) + "0" + ")".repeat(20), "1");
        fault("C(0,".repeat(20) + "(0)" + ")".repeat(20), 1, 80);
        // those that are closed again do not count
        fine("(n)*(1)*".repeat(3) + "(1)*".repeat(20) + "1", "n^3");
        fine("(".repeat(19) + "(1)*(1)*(1)*(n)" + ")".repeat(19), "n");
        fault("(".repeat(19) + "(1)*((1))" + ")".repeat(19), 1, 24);
        fault("(".repeat(20) + "n" + ")".repeat(21), 1, 41);
    }

    private static void choicesWithTwentyOpen() {
        Due.of(WHERE, "A C with 20 ( open is no fault yet: its ( is, as the 21st (or whatever byte, or the end, stands there");
        String open = "(".repeat(20);
        fault(open + "C(n,k)", 1, 21);
        fault(open + "C", 1, 21);
        fault(open + "Cn", 1, 21);
        fault(open + "C)", 1, 21);
        fault(open + "C\u0000", 1, 21);
        fault(open + "C (", 1, 22);
        fault(open + "C  n", 1, 23);
        fault(open + "C  ", 1, 23);
        fault(open + "n*C(", 1, 23);
        fine("(".repeat(19) + "C(4,2)" + ")".repeat(19), "6");
    }

    private static void marks() {
        Due.of(WHERE, "a second ! or ^ behind one B");
        fault("n!!", 1, 2);
        fault("(n)!!", 1, 4);
        fault("n! !", 1, 3);
        fault("n!^2!", 1, 4);
        fault("n!^2^2", 1, 4);
        fault("2^n^2", 1, 3);
        fine("(n!)^2", "(1)*(n)!^2");
        fine("(2^2)^3", "64");
        fine("(2+1)!*3!", "36");
    }

    private static void ends() {
        Due.of(WHERE, "the length for its end");
        fault("", 1, 0);
        fault("   ", 1, 3);
        fault("n+", 1, 2);
        fault("n+  ", 1, 4);
        fault("(n", 1, 2);
        fault("(n ", 1, 3);
        fault("C", 1, 1);
        fault("C(n,k", 1, 5);
        fault("-", 1, 1);
        fault("2^", 1, 2);
        fault("(".repeat(20), 1, 20);
        fault(" ".repeat(400), 1, 400);
        fault("(" + "n+".repeat(199) + "n", 1, 400);
        Due.of(WHERE, "FAULT 1");
        // it is looked for in the whole text before values are found
        fault("1/0)", 1, 3);
        fault("(n!+1)/0+", 1, 9);
    }

    private static void sequence() {
        Due.of(WHERE, "Then values are found, operands from the left to the right before their sign");
        fault("1/0+n!", 3, 1);
        fault("n!+1/0", 3, 4);
        fault("n!+1+1/0", 2, 2);
        fault("n!+1*(1/0)", 3, 7);
        fault("1/0*(1/0)", 3, 1);
        fault("(1/0)^(1/0)", 3, 2);
        fault("2^(1/0)", 3, 4);
        fault("C(1/0,n!)", 3, 3);
        fault("C(n!,1/0)", 3, 6);
        fault("k^13*(1/0)", 4, 1);
        fault("1/(0*(1/0))", 3, 7);
        Due.of(WHERE, "a - in front as soon as its U is");
        fault("-n!+1/0", 3, 5);
        fault("-1/0+n!", 3, 2);
        fine("-n+n", "0");
        fine("-2*n", "-2*n");
        fine("-n^2", "-n^2");
        fine("-2!", "-2");
        fine("-6/3-1", "-3");
        fine("-0^0", "-1");
        Due.of(WHERE, "the first fault at its sign's place");
        fault(" n!  +  1 ", 2, 5);
        fault("(((n!)))+(((1)))", 2, 8);
        fault("n+n!-1", 2, 1);
        fault("1-2-3/(1-1)-n!", 3, 5);
    }

    private static void placesOfChoices() {
        Due.of(WHERE, "(of C that of the C, at once, not of what it is made of)");
        fault("1+C(n!,k)", 2, 2);
        fault("1+C(n,k!)", 2, 2);
        fault("1 + C  (0-1,k)", 3, 4);
        fault("C(C(2,3),n)", 3, 2);
        fault("C(n,C(2,3))", 3, 4);
        fault("2*C(n,0-1)", 3, 2);
        fault("C(n,n+1)*1/0", 3, 0);
        fault("C(2*n,n-2*n-n)", 2, 0);
    }

    private static void faultTwo() {
        Due.of(WHERE, "FAULT 2: + or - between two of which one is a term");
        fault("n!+1", 2, 2);
        fault("1+n!", 2, 1);
        fault("n!-n!", 2, 2);
        fault("2^n-2^n", 2, 3);
        fault("0-n!", 2, 1);
        fine("0*n!+1", "1");
        fine("n!/n!+1", "2");
        fine("1^n-1", "0");
        Due.of(WHERE, "a ! of what is no LINE");
        fault("n!*(n!)!", 2, 7);
        fault("(2^k)!", 2, 5);
        fault("(1/n)!", 2, 5);
        fault("(n/2)!", 2, 5);
        fault("(n^2)!", 2, 5);
        fault("(k^2)!", 2, 5);
        fault("(n*k)!", 2, 5);
        fault("(n*k+n+k)!", 2, 9);
        fine("(n*n/n)!", "(1)*(n)!");
        fine("(n^2-n^2+k)!", "(1)*(k)!");
        Due.of(WHERE, "a C of which x, y or x - y is no line");
        fault("C(n^2,k)", 2, 0);
        fault("C(n,k^2)", 2, 0);
        fault("C(n!,k)", 2, 0);
        fault("C(n,1/2)", 2, 0);
        fault("C(n^2+k,n^2)", 2, 0);
        fault("C(3*n,-n)", 2, 0);
        fault("C(3*k,-k)", 2, 0);
        fault("C(n+50,k-1)", 2, 0);
        fault("C(n-50,k+1)", 2, 0);
        fine("C(n+50,k)", "(1)/(k)!/(-k+n+50)!*(n+50)!");
        fine("C(2*n,-n)", "(1)/(-n)!*(2*n)!/(3*n)!");
        fine("C(n,k-50)", "(1)/(k-50)!/(-k+n+50)!*(n)!");
        Due.of(WHERE, "a ^ whose exponent is no line, or has n or k and the base is a term, or a ratio that is no number");
        fault("2^(n^2)", 2, 1);
        fault("2^(n*k)", 2, 1);
        fault("2^(1/n)", 2, 1);
        fault("2^(n!)", 2, 1);
        fault("n!^n", 2, 2);
        fault("(2^n)^n", 2, 5);
        fault("n^n", 2, 1);
        fault("(n/k)^k", 2, 5);
        fault("(n+1)^(n-n+k)", 2, 5);
        fine("(n/n)^n", "1");
        fine("(2/3)^n*3^n", "(1)*2^n");
        fine("n!^(n-n+2)", "(1)*(n)!^2");
    }

    private static void lines() {
        Due.of(WHERE, "A LINE is a polynomial a n + b k + c with a, b -3 .. 3, c -50 .. 50 as small ones");
        fine("(3*n-3*k-50)!", "(1)*(-3*k+3*n-50)!");
        fine("(3*k-3*n+50)!", "(1)*(3*k-3*n+50)!");
        fault("(4*n)!", 2, 5);
        fault("(0-4*n)!", 2, 7);
        fault("(4*k)!", 2, 5);
        fault("(0-4*k)!", 2, 7);
        fault("(n+51)!", 2, 6);
        fault("(n-51)!", 2, 6);
        fine("(2147483644*n+2147483644*k+2147483597)!", "(1)*(-3*k-3*n-50)!");
        fault("(n+2147483596)!", 2, 14);
        fault("(2147483643*n)!", 2, 14);
        fine("50!/49!", "50");
        fault("51!", 2, 2);
        fine("0!", "1");
        fine("(n-n)!", "1");
        fault("2147483597!", 3, 10);
        fault("2147483596!", 2, 10);
    }

    private static void exponents() {
        Due.of(WHERE, "a ^ whose exponent is no line");
        fine("1^50", "1");
        fault("1^51", 2, 1);
        fine("1^(0-50)", "1");
        fault("1^(0-51)", 2, 1);
        fine("1^(3*n-3*k+50)", "1");
        fault("1^(3*n-4*k+50)", 2, 1);
        fault("1^(4*n)", 2, 1);
        fault("1^(n+51)", 2, 1);
        fine("2^2147483646", "-1073741823");
        fine("2^(n/1)", "(1)*2^n");
        fault("2^(1/2)", 2, 1);
    }

    private static void faultThree() {
        Due.of(WHERE, "FAULT 3: a / by 0");
        fault("n/0", 3, 1);
        fault("n!/0", 3, 2);
        fault("0/0", 3, 1);
        fault("n/(0*n!)", 3, 1);
        fault("1/2147483647", 3, 1);
        Due.of(WHERE, "a factorial (of C any of the three) of a number below 0");
        fault("(0-1)!", 3, 5);
        fault("(0-50)!", 3, 6);
        fault("C(0-1,0-2)", 3, 0);
        fault("C(n,0-1)", 3, 0);
        fault("C(3,4)", 3, 0);
        fault("C(n,n+1)", 3, 0);
        fault("C(0-1,k)", 3, 0);
        fine("C(3,3)", "1");
        fine("C(n,n)", "1");
        fine("C(n,0)", "1");
        fine("C(0,0)", "1");
        fine("C(50,49)", "50");
        fine("(n-1)!", "(1)*(n-1)!");
        Due.of(WHERE, "0 to a power with n or k, or below 0");
        fault("0^n", 3, 1);
        fault("0^k", 3, 1);
        fault("0^(n-n+0-1)", 3, 1);
        fault("(n-n)^(n-k)", 3, 5);
        fine("0^0", "1");
        fine("0^1", "0");
        fine("(n-n)^50", "0");
        fine("0^(n-n)", "1");
        Due.of(WHERE, "of one sign in this order");
        fault("C(0-1,1/2)", 2, 0);
        fault("C(n+50,0-1)", 2, 0);
        fault("0^(n*k)", 2, 1);
        fault("0^(0-51)", 2, 1);
        fault("(0-51)!", 2, 6);
        fault("n^13/0", 3, 4);
        fault("n!^(n^2)", 2, 2);
    }

    private static void faultFour() {
        Due.of(WHERE, "FAULT 4: what comes of it is no ratio that fits, or no term as told in 2");
        fine("n^24", "n^24");
        fault("n^25", 4, 1);
        fine("k^12", "k^12");
        fault("k^13", 4, 1);
        fault("n^(0-25)", 4, 1);
        fault("k^(0-13)", 4, 1);
        fault("n^12*n^13", 4, 4);
        fault("n^24*n/n", 4, 4);
        fault("k^12*(1/n)/(1/k)", 4, 10);
        fault("1/n^12/n^13", 4, 6);
        fault("1/(n^12+k)+1/(n^13+k)", 4, 10);
        fine("1/(n^12+k)-1/(n^12+2*k)", Due.plain("k/((n^12+k)*(n^12+2*k))"));
        fault("1/(n^12+k)-1/(n^13+k)", 4, 10);
        fine("n!^12", "(1)*(n)!^12");
        fault("n!^13", 4, 2);
        fault("n!^50", 4, 2);
        fault("n!^(0-13)", 4, 2);
        fine("C(n,k)^4", "(1)/(k)!^4/(-k+n)!^4*(n)!^4");
        fault("C(n,k)^5", 4, 6);
        fault("n!^12*k!", 4, 5);
        fault("n!^12/k!", 4, 5);
        fine("n!^12*k!^0", "(1)*(n)!^12");
        fault("(n^13*2^n)^2", 4, 10);
        fault("(n^13*2^n)*(n^12*3^n)", 4, 10);
        fine("n^13*n!*(k^12/n^13)", "(k^12)*(n)!");
    }

    private static void meanings() {
        Due.of(WHERE, "x ! is a factorial to the power 1, of a number c the number c!");
        fine("5!", "120");
        fine("1!", "1");
        fine("13!", Due.plain("6227020800"));
        Due.of(WHERE, "C(x, y) is x! by y! and (x - y)!");
        fine("C(n,k)", "(1)/(k)!/(-k+n)!*(n)!");
        fine("C(2*k,k)", "(1)/(k)!^2*(2*k)!");
        fine("C(5,k)", "(120)/(-k+5)!/(k)!");
        fine("C(n,2)", "(-1073741823)/(n-2)!*(n)!");
        fine("C(10,3)", "120");
        Due.of(WHERE, "A power whose exponent is a number c is so many factors (c below 0: by so many; c = 0: 1)");
        fine("(n+k)^2", "k^2+2*n*k+n^2");
        fine("(2*n)^(0-2)", "(536870912)/(n^2)");
        fine("(2^n*k!)^(0-1)", Due.plain("(1/2)^n/k!"));
        fine("(n*k!)^0", "1");
        fine("(2^n)^3", "(1)*8^n");
        fine("(2^n*3^k)^2", "(1)*4^n*9^k");
        fine("(3^k*n)^3", "(n^3)*27^k");
        fine("(3^k/n)^(0-1)", Due.plain("n*(1/3)^k"));
        fine("2^(0-1)", "-1073741823");
        Due.of(WHERE, "else u^(a n + b k + c) is u^c times u^a as X, u^b as Y");
        fine("2^(3*n-k+5)", "(32)*8^n*1073741824^k");
        fine("(0-1)^(n+k)", "(1)*2147483646^n*2147483646^k");
        fine("3^(n-n+k)", "(1)*3^k");
        Due.of(WHERE, "- U is -1 times it");
        fine("-n!", "(-1)*(n)!");
        fine("-2^n", "(-1)*2^n");
        fine("(-2)^n", "(1)*2147483645^n");
        Due.of(WHERE, "0 times a term, or by one, is 0");
        fine("0*n!", "0");
        fine("n!*0", "0");
        fine("0/n!", "0");
        fine("0*n!^12*k!", "0");
        Due.of(WHERE, "What is left of factorials and X, Y may be none: that is a ratio");
        fine("n*n!/n!", "n");
        fine("2^n/2^n", "1");
    }

    private static void writtenPolynomials() {
        Due.of(WHERE, "a NUMBER as a small one");
        fine("1073741823+0", "1073741823");
        fine("1073741824*n", "-1073741823*n");
        Due.of(WHERE, "A POLYNOMIAL: its parts, the greatest j first, of these the greatest i first");
        fine("1+n+n^2+k+n*k+k^2+n^2*k^2", "n^2*k^2+k^2+n*k+k+n^2+n+1");
        Due.of(WHERE, "a - or (but for the first part) a +");
        fine("n-k", "-k+n");
        fine("k-n-1", "k-n-1");
        fine("0-n-2", "-n-2");
        Due.of(WHERE, "the size of the number unless that is 1 and there is an n or k");
        fine("1", "1");
        fine("0-1", "-1");
        fine("n+1", "n+1");
        fine("0-n*k", "-n*k");
        fine("2*k-1", "2*k-1");
        Due.of(WHERE, "then, a * between all, n or n^i, k or k^j; 0 for none");
        fine("3*n^2*k^10", "3*n^2*k^10");
        fine("n*k^2", "n*k^2");
        fine("7*k", "7*k");
        fine("n-n", "0");
        Due.of(WHERE, "A RATIO: its numerator, or (numerator)/(denominator) if that is not 1");
        fine("n/1", "n");
        fine("n/2", "-1073741823*n");
        fine("1/n", "(1)/(n)");
        fine("(n+1)/(k-1)", "(n+1)/(k-1)");
        fine("0/n", "0");
    }

    private static void writtenTerms() {
        Due.of(WHERE, "A TERM: ( and its ratio as written and ) , so ((n)/(k)) or (1)");
        fine("n!*n/k", "((n)/(k))*(n)!");
        fine("n!", "(1)*(n)!");
        fine("n!*(n+1)", "(n+1)*(n)!");
        Due.of(WHERE, "then *X^n (X told 0 .. P - 1) unless X is 1, *Y^k likewise");
        fine("(0-1)^n", "(1)*2147483646^n");
        fine("(1/2)^k", "(1)*1073741824^k");
        fine("2^(n+k)*5", "(5)*2^n*2^k");
        Due.of(WHERE, "then in their order * or / and (a n + b k + c as a polynomial)!");
        fine("(n+k-1)!/(k-n)!*3^k", "(1)*3^k/(k-n)!*(k+n-1)!");
        fine("(3*n)!/(2-3*k)!", "(1)/(-3*k+2)!*(3*n)!");
        Due.of(WHERE, "^ and the size of e behind it if that is above 1");
        fine("n!^2/k!^3", "(1)/(k)!^3*(n)!^2");
        fine("n!^12", "(1)*(n)!^12");
        fine("1/n!", "(1)/(n)!");
    }

    private static void typing() {
        Due.of("Promise 2", "Puts n bytes behind the tape, the lowest n of bytes, the highest of them first");
        SumHouse h = new SumHouse();
        Due.due("8 of them", h.type(0x2D20286E2B6B2921L, 8), 8);
        Due.due("read", h.read(0), 2);
        Due.due("-(n+k)!", Due.text(h, 0), "(-1)*(k+n)!");
        Due.due("the lowest 3", h.type(0x2B2B2B2B2B6E2B31L, 3), 3);
        Due.due("behind them", h.type(0x2A6BL, 2), 5);
        Due.due("read", h.read(0), 1);
        Due.due("n+1*k", Due.text(h, 0), "k+n");
        Due.due("bytes of 255", h.type(-1L, 2), 2);
        Due.due("are no sign", h.read(0), -11);
        Due.of("Promise 2", "NONE when n is not 1 .. 8, or there would be more than 400");
        Due.due("1", h.type('n', 1), 1);
        Due.due("0", h.type('n', 0), -1);
        Due.due("9", h.type('n', 9), -1);
        Due.due("-1", h.type('n', -1), -1);
        Due.due("the greatest int", h.type('n', Integer.MAX_VALUE), -1);
        Due.due("the least int", h.type('n', Integer.MIN_VALUE), -1);
        for (int i = 1; i < 50; i++) {
            Due.due("8 more", h.type(0, 8), 1 + 8 * i);
        }
        Due.due("8 more than 393", h.type(0, 8), -1);
        Due.due("7 more", h.type(0, 7), 400);
        Due.due("1 more", h.type(0, 1), -1);
        Due.due("400 on the tape", h.count(0), 400);
    }

    private static void reading() {
        Due.of("Promise 3", "Reads the tape, which is empty then: the kind of what comes (1 a ratio, 2 a term)");
        SumHouse h = new SumHouse();
        Due.due("a ratio", Due.read(h, "n/k", 0), 1);
        Due.due("the tape is empty", h.count(0), 0);
        Due.due("a term", Due.read(h, "2^k", 1), 2);
        Due.due("kinds", h.kind(0) * 10 + h.kind(1), 12);
        Due.of("Promise 3", "-10 less the FAULT (-11 to -14): nothing comes");
        String[] texts = {"n+", "n!+1", "1/0", "n^25"};
        for (int fault = 1; fault <= 4; fault++) {
            Due.due(texts[fault - 1], Due.read(h, texts[fault - 1], 0), -10 - fault);
            Due.due("the tape is empty", h.count(0), 0);
            Due.due("what was there stays", Due.text(h, 0), "(n)/(k)");
            Due.due("an empty slot stays empty", Due.read(h, texts[fault - 1], 5) < 0 ? h.kind(5) : -9, 0);
        }
        Due.of("Promise 3", "NONE, the tape staying");
        Due.type(h, "n+7");
        for (int to : new int[] {12, -1, Integer.MAX_VALUE, Integer.MIN_VALUE}) {
            Due.due("to " + to, h.read(to), -1);
            Due.due("the tape", h.count(0), 3);
        }
        Due.due("then it is read", h.read(11), 1);
        Due.due("n+7", Due.text(h, 11), "n+7");
    }

    private static void places() {
        Due.of("Promise 4", "The place of the fault of the latest read() that was not NONE; NONE when it had none, or before");
        SumHouse h = new SumHouse();
        Due.due("before", h.place(), -1);
        Due.due("NONE", h.read(12), -1);
        Due.due("still before", h.place(), -1);
        Due.read(h, "n+k+", 0);
        Due.due("at 4", h.place(), 4);
        Due.due("NONE", h.read(-1), -1);
        Due.due("at 4 still", h.place(), 4);
        Due.read(h, "k*n/0", 0);
        Due.due("at 3", h.place(), 3);
        Due.read(h, "n", 0);
        Due.due("none any more", h.place(), -1);
        Due.read(h, "1/0/0", 0);
        Due.due("at 1", h.place(), 1);
    }

    private static void writing() {
        Due.of("Promise 5", "Writes a ratio or term: how many bytes. LARGE when these are more than 4000");
        SumHouse h = Due.house("n+1", "C(n,k)");
        Due.due("a ratio", h.write(0), 3);
        Due.due("a term", h.write(1), "(1)/(k)!/(-k+n)!*(n)!".length());
        Due.of("Promise 6", "Byte i of what was written latest; NONE when there is none");
        SumHouse g = Due.house("n+1", "(n+12345)^24*(k+54321)^12", "7");
        Due.due("before", g.written(0), -1);
        g.write(0);
        Due.due("byte 0", g.written(0), 'n');
        Due.due("byte 2", g.written(2), '1');
        Due.due("byte 3", g.written(3), -1);
        Due.due("byte -1", g.written(-1), -1);
        Due.due("byte at the greatest int", g.written(Integer.MAX_VALUE), -1);
        Due.due("byte at the least int", g.written(Integer.MIN_VALUE), -1);
        Due.due("too much", g.write(1), -2);
        Due.due("n+1 stays", g.written(1), '+');
        Due.due("it is as long as it was", g.count(1), 3);
        g.write(2);
        Due.due("7", g.written(0), '7');
        Due.due("and no more of n+1", g.written(1), -1);
        Due.of("Promise 7", "What was written becomes the tape: how many bytes");
        SumHouse f = Due.house("n+1");
        Due.type(f, "k*k");
        Due.due("nothing written: an empty tape", f.again(), 0);
        Due.due("of no bytes", f.count(0), 0);
        f.write(0);
        Due.type(f, "k*");
        Due.due("three bytes", f.again(), 3);
        Due.due("again", f.again(), 3);
        Due.due("n+1 is read", f.read(1), 1);
        Due.due("n+1", Due.text(f, 1), "n+1");
    }
}
