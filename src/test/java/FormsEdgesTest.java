/** "Terms", section 4, and promises 19 and 20: forms and closed forms, at the bounds that they name. */
public final class FormsEdgesTest {
    private static final String WHERE = "Terms 4";
    private static final int P = 2147483647;

    public static void main(String[] args) {
        beginnings();
        shifts();
        modestInK();
        modestInN();
        modestAtTheEnd();
        otherForms();
        closedForms();
        depthsByDegrees();
        depthsByNumbers();
        several();
        quotientsAndForms();
        whatComes();
        otherClosed();
        Due.end();
    }

    /** A, B, C, and that r = A/B C(k + 1)/C(k). */
    private static void form(String text, String a, String b, String c) {
        SumHouse h = Due.house(text);
        String[] want = {a, b, c};
        for (int which = 0; which < 3; which++) {
            int answer = h.form(0, which, 1 + which);
            Due.due("form " + which + " of " + text, Due.came(h, answer, 1 + which), Due.plain(want[which]));
        }
        isOf(h, text);
    }

    private static void isOf(SumHouse h, String text) {
        h.change(1, 3, 1, 4);
        h.work(3, 4, 3, 4);
        h.work(3, 1, 2, 5);
        h.work(2, 4, 5, 4);
        Due.due("A/B C(k + 1)/C(k) of " + text, Due.text(h, 4), Due.text(h, 0));
    }

    private static void immodest(String text) {
        SumHouse h = Due.house(text);
        for (int which = 0; which < 3; which++) {
            Due.due("form " + which + " of " + text, h.form(0, which, 1), -2);
        }
        Due.due("nothing came", h.kind(1), 0);
    }

    /** That a form is modest, and the degrees in n and k of one side of A, B or C. */
    private static void modest(String text, int which, int side, int inN, int inK) {
        SumHouse h = Due.house(text);
        for (int i = 0; i < 3; i++) {
            Due.due("form " + i + " of " + text, h.form(0, i, 1 + i), 1);
        }
        Due.due("degree in n for " + text, h.degree(1 + which, side, 0), inN);
        Due.due("degree in k for " + text, h.degree(1 + which, side, 1), inK);
        isOf(h, text);
    }

    private static void beginnings() {
        Due.of(WHERE, "it begins with r's numerator and denominator along k (B monic), C = 1");
        form("(n*k+2)/(3*n*k+1)", "(n*k+2)/(3*n)", "(3*n*k+1)/(3*n)", "1");
        form("k/(k+1)", "k", "k+1", "1");
        form("(2*n+1)/(n^2+3)", "(2*n+1)/(n^2+3)", "1", "1");
        form("5", "5", "1", "1");
        form("(k^2+n)/7", "(k^2+n)/7", "1", "1");
        form("7/(2*k-n)", "7/2", "k-n/2", "1");
        Due.of(WHERE, "SHIFTED by i: k + i for k");
        form("(k+1)/k", "1", "1", "k");
        form("k/(k+1)*(k+5)/(k+4)", "k", "k+1", "k+4");
        Due.of("Terms 1", "divisors, MONIC (the number at the greatest power of k is 1) are meant so in sections 4 and 5");
        form("((2*n*k+3+2*n)*k)/((2*n*k+3)*(k+7))", "k", "k+7", "k+3/(2*n)");
        form("((n+1)*k)/((n+1)^2*(k+7))", "k/(n+1)", "k+7", "1");
    }

    private static void shifts() {
        Due.of(WHERE, "then for i = 0, 1 .. 40: D, the greatest common divisor, monic, of A and B shifted by i");
        form("(k+2)/k", "1", "1", "k*(k+1)");
        form("(k+n+3)/(k+n)", "1", "1", "(k+n)*(k+n+1)*(k+n+2)");
        form("k/(k+3)", "k", "k+3", "1");
        immodest("(k+9)/k");
        immodest("(k+39)/k");
        immodest("(k+40)/k");
        form("(k+41)/k", "k+41", "k", "1");
        form("(k+42)/k", "k+42", "k", "1");
        // the 2 goes with the 1, so that 41 is left for 0, not 40 for 1
        form("(k+41)/(k+1)*(k+2)/k", "k+41", "k", "k+1");
        Due.of(WHERE, "A is divided by D, B by D shifted by -i, and C multiplied by D shifted by -1, -2 .. -i");
        form("(k+3)*(k+5)/(k*(k+4))", "1", "1", "k*(k+1)*(k+2)*(k+4)");
        // the 2 goes with the 1 (i = 1), so that the 5 is left for the 0 (i = 5)
        form("(k+2)*(k+5)/(k*(k+1))", "1", "1", "(k+1)*k*(k+1)*(k+2)*(k+3)*(k+4)");
        form("(k+1)^2/k^2", "1", "1", "k^2");
        form("(k+1)^2/k", "k+1", "1", "k");
        form("(k+1)/k^2", "1", "k", "k");
        form("(k+1)^3*(k+2)/(k^2*(k+7))", "(k+1)*(k+2)", "k+7", "k^2");
        form("(k+n/2+1/2)*(k+n/2+1)/((k+n/2)*(k+n/2+1/2))", "1", "1", "k+n/2");
        form("(2*k+3)*(2*k+2)/((2*k+1)*(k+5))", "4*(k+1)/2", "k+5", "k+1/2");
    }

    private static void modestInK() {
        Due.of(WHERE, "degrees of 8 at most in k");
        modest("k^8+n", 0, 0, 1, 8);
        immodest("k^9+n");
        modest("1/(k^8+n)", 1, 0, 1, 8);
        immodest("1/(k^9+n)");
        modest("(k+1)^8/k^8", 2, 0, 0, 8);
        immodest("(k+1)^9/k^9");
        modest("(k+8)/k", 2, 0, 0, 8);
        modest("(k+4)^2/k^2", 2, 0, 0, 8);
        immodest("(k+3)^3/k^3");
        modest("(k+2)^4/k^4", 2, 0, 0, 8);
        immodest("(k+2)^4*(k+8)/(k^4*(k+7))");
    }

    private static void modestInN() {
        Due.of(WHERE, "and 12 at most in n, each in lowest terms");
        modest("k+n^12", 0, 0, 12, 1);
        immodest("k+n^13");
        modest("k/n^12", 0, 1, 12, 0);
        immodest("k/n^13");
        modest("n^12", 0, 0, 12, 0);
        immodest("n^13");
        modest("1/n^12", 0, 1, 12, 0);
        immodest("1/n^13");
        modest("1/(k+n^12)", 1, 0, 12, 1);
        immodest("1/(k+n^13)");
        modest("n^12/(n^12*k+1)", 1, 1, 12, 0);
        immodest("n^13/(n^13*k+1)");
        modest("(k+1+n^12)/(k+n^12)", 2, 0, 12, 1);
        immodest("(k+1+n^13)/(k+n^13)");
        modest("(n^12*k+n^12+1)/(n^12*k+1)", 2, 1, 12, 0);
        immodest("(n^13*k+n^13+1)/(n^13*k+1)");
        modest("(k+2+n^6)/(k+n^6)", 2, 0, 12, 2);
        immodest("(k+2+n^7)/(k+n^7)");
        // A is n^13 k by n^12
        modest("n^13*k/(n^12*k+1)", 0, 0, 1, 1);
        immodest("((n+1)^13*k+n)/(n+1)");
    }

    private static void modestAtTheEnd() {
        Due.of(WHERE, "It is MODEST if A, B, C are ratios .. at the end");
        // A and B have degree 9 before a divisor goes
        form("(k+1)*(k^8+3)/(k*(k^8+5))", "k^8+3", "k^8+5", "k");
        // and 13 in n
        form("(k+1+n)*(k+n^12)/((k+n)*(k+5*n^12+k^2))", "k+n^12", "k^2+k+5*n^12", "k+n");
        // 8 is too much for C's degree as soon as it is 9
        immodest("(k+1)*(k^8+8*k^7+3)/(k*(k^9+3))");
        immodest("(k+9)*(k^2+5)/(k*(k^2+3))");
    }

    private static void otherForms() {
        Due.of("Promise 19", "Of the FORM of a ratio (NONE of 0; KIND of a term): which = 0 A, 1 B, 2 C: 1");
        SumHouse h = Due.house("0", "n!", "k", "2^k", "k^9");
        Due.due("of 0", h.form(0, 0, 11), -1);
        Due.due("of a term", h.form(1, 0, 11), -3);
        Due.due("of 2^k", h.form(3, 1, 11), -3);
        Due.of("Promise 19", "NONE for others; LARGE when it is not modest");
        Due.due("which 3", h.form(2, 3, 11), -1);
        Due.due("which -1", h.form(2, -1, 11), -1);
        Due.due("which 3 of 0", h.form(0, 3, 11), -1);
        Due.due("which 3 of a term", h.form(1, 3, 11), -3);
        Due.due("which 3 of what is not modest", h.form(4, 3, 11), -1);
        Due.due("nothing came", h.kind(11), 0);
        Due.due("into its own place", h.form(2, 0, 2), 1);
    }

    /** R, and that R t with k + 1 for k, less R t, is t, by values. */
    private static void close(String text, String want) {
        SumHouse h = Due.house(text);
        int answer = h.close(0, 1);
        Due.due("closed form of " + text, Due.came(h, answer, 1), Due.plain(want));
        isClosed(h, text);
    }

    private static void isClosed(SumHouse h, String text) {
        int looked = 0;
        for (int n = 1; n < 40; n += 4) {
            for (int k = 0; k < 30; k++) {
                long t = h.value(0, n, k);
                long next = h.value(0, n, k + 1);
                long r = h.value(1, n, k);
                long rNext = h.value(1, n, k + 1);
                if (t >= 0 && next >= 0 && r >= 0 && rNext >= 0) {
                    long left = (rNext * next % P + P - r * t % P) % P;
                    Due.due(text + " at " + n + ", " + k, left, t);
                    looked++;
                }
            }
        }
        Due.due("values of " + text, looked > 20 ? 1 : 0, 1);
    }

    private static void closes(String text) {
        SumHouse h = Due.house(text);
        Due.due("closed form of " + text, h.close(0, 1), 1);
        isClosed(h, text);
    }

    private static void unclosed(String text, int want) {
        SumHouse h = Due.house(text);
        Due.due("closed form of " + text, h.close(0, 1), want);
        Due.due("nothing came", h.kind(1), 0);
    }

    private static void closedForms() {
        Due.of(WHERE, "A CLOSED FORM of t: A, B, C of its quotient along k; x of the equation with Z = C; R = B(k - 1) x(k)/C(k)");
        close("1", "k");
        close("n/3", "k");
        close("2^k", "1");
        close("k*k!", "1/k");
        close("(k-1)/k!", "(0-k)/(k-1)");
        close("(2*k)!/k!^2/4^k", "2*k");
        close("(-1)^k*C(n,k)", "(0-k)/n");
        close("(-1)^k*(n+k-1)!/(n-k)!/k!^2", "(0-k^2)/n^2");
        close("1/((k+n)*(k+n+1))", "0-k-n-1");
        close("k", "(k-1)/2");
        closes("2^k*k^8");
        closes("(k^8+n^12)*2^k");
        closes("C(n+k,k)");
        closes("k^3*n^5+k");
    }

    private static void depthsByDegrees() {
        Due.of(WHERE, "If the degrees are others, or the numbers at k^d in A(k) and B(k - 1): z - d");
        // A has degree 1, B 0, then B 1, A 0
        unclosed("k!", -1);
        closes("k*k!");
        unclosed("1/k!", -1);
        closes("(k-1)/k!");
        unclosed("k^2*k!", -1);
        // numbers 2 and 1: z is 8, then 9 of a C that is not modest
        closes("2^k");
        closes("k^8*2^k");
        unclosed("k^9*2^k", -2);
        unclosed("2^k*k!/(k+n)!", -1);
        Due.of(WHERE, "Otherwise .. z - d + 1");
        closes("k^7");
        unclosed("k^8", -2);
        closes("(n*k+1)^7");
        unclosed("(n*k+1)^8", -2);
        closes("k^9*(n+k-1)!/k!");
        unclosed("k^10*(n+k-1)!/k!", -2);
        Due.of(WHERE, "x has this degree at most; there is none if it is below 0; the equation is LARGE if it is above 8");
        unclosed("C(n,k)", -1);
        unclosed("1/(k^2+n)", -1);
        unclosed("2^k/(k^4+n)", -1);
        unclosed("1/k", -1);
    }

    private static void depthsByNumbers() {
        Due.of(WHERE, "or (g - f)/l, if that has no n, is a number of 0 .. 12, and greater");
        // A is k + 1, B(k - 1) k + b: (g - f)/l is b - 1
        for (int b = 2; b <= 16; b++) {
            String text = "k!/(k+" + b + ")!";
            if (b <= 9 || b >= 14) {
                closes(text);
            } else {
                unclosed(text, -2);
            }
        }
        // k + n and k + b: it has n
        closes("(n+k-1)!/(k+15)!");
        closes("(n+k-1)!/(k+5)!");
        // 0 is greater than z - d + 1 = -1: A is (k - n) (k + n), B(k - 1) is k^2
        closes("(-1)^k*(n+k-1)!/(n-k)!/k!^2");
        // 1: B(k - 1) is k (k + 1)
        closes("(-1)^k*(n+k-1)!/(n-k)!/k!/(k+1)!");
        // a half, which is no number of 0 .. 12
        closes("(2*k)!/k!^2/4^k");
        // it is not greater: 1, and z - d + 1 = 8
        closes("k^6+1/((n+k+1)*(n+k+2))");
        unclosed("k^7+1/((n+k+1)*(n+k+2))", -2);
        Due.of(WHERE, "(0 if d is 0)");
        close("3", "k");
    }

    private static void several() {
        Due.of(WHERE, "Of several x that which has no part at the degree of a solution for Z = 0");
        close("1", "k");
        close("k", "(k-1)/2");
        close("k^2", "(2*k^2-3*k+1)/(6*k)");
        close("1/(k*(k+1))", "0-k-1");
        close("1/(k*(k+1)*(k+2))", "(0-k-2)/2");
        // x = c + x_8 k^8 ..: the part that is left out is the one at k^8
        close("k!/(k+9)!", "(0-k-9)/8");
    }

    private static void quotientsAndForms() {
        Due.of("Promise 20", "LARGE: its quotient does not fit, the form is not modest, the equation is large");
        // C has degree 8, and A 4, then 5: the quotient 12, then 13
        unclosed("k^8*k!^4", -1);
        unclosed("k^8*k!^5", -2);
        unclosed("(3*k+n)!^5", -2);
        // A has degree 8, then 9
        unclosed("k!^8", -1);
        unclosed("k!^9", -2);
        unclosed("1/k!^8", -1);
        unclosed("1/k!^9", -2);
        // C has 12 in n, then 13
        closes("(k^8+n^12)*2^k");
        unclosed("(k^8+n^13)*2^k", -2);
        // a quotient that does not fit goes ahead of no x, and of a form that is not modest
        unclosed("(k^9+n)*k!^5", -2);
    }

    /**
     * x has degree 8 by (g - f)/l, and was taken so that what is left of A(k) x(k + 1) - B(k - 1) x(k),
     * the numerator here, has degree 8 or 7: R has the degree of B, 4 or 5, and 8 above.
     */
    private static void whatComes() {
        Due.of("Promise 20", "LARGE: .. or R does not fit (in this order)");
        String four = "(83886139*k^8-369098408*k^7+587203295*k^6-1073741140*k^5-486538998*k^4+33554467*k^3"
                + "+956301228*k^2-132*k-72)/16^k*(2*k-1)!^2/(k+2)!^3/(k+3)!";
        closes(four);
        SumHouse h = Due.house(four);
        h.close(0, 1);
        Due.due("12 above in k", h.degree(1, 0, 1), 12);
        Due.due("order 0", h.recur(0, 0, 2), 0);
        String five = "(-846462974*k^7+546308104*k^6+829947920*k^5-534773769*k^4-508821594*k^3-168*k^2-144*k-48)"
                + "/16^k*(2*k-1)!^2*(k-1)!/(k+2)!^4/(k+1)!";
        unclosed(five, -2);
        SumHouse g = Due.house(five);
        Due.due("its quotient fits", g.quotient(0, 1, 1), 1);
        for (int which = 0; which < 3; which++) {
            Due.due("its form is modest", g.form(1, which, 2 + which), 1);
        }
        Due.due("A of degree 5", g.degree(2, 0, 1), 5);
        Due.due("C of degree 7", g.degree(4, 0, 1), 7);
        Due.due("a record would be too large, too", g.recur(0, 0, 6), -2);
    }

    private static void otherClosed() {
        Due.of("Promise 20", "R of the closed form of a term, or of a ratio (NONE of 0): 1. NONE when there is no x");
        unclosed("0", -1);
        unclosed("n-n", -1);
        unclosed("k!", -1);
        unclosed("1/k", -1);
        unclosed("C(n,k)", -1);
        SumHouse h = Due.house("k*k!");
        Due.due("into its own place", h.close(0, 0), 1);
        Due.due("1/k", Due.text(h, 0), "(1)/(k)");
        Due.due("to slot 12", h.close(0, 12), -1);
        Due.due("of an empty slot", h.close(5, 0), -3);
    }
}
