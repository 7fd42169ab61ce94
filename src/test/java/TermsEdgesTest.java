/** "Terms", section 2, and promises 16 to 18: terms, their values and quotients at the bounds. */
public final class TermsEdgesTest {
    private static final String WHERE = "Terms 2";
    private static final int P = 2147483647;

    public static void main(String[] args) {
        lines();
        powers();
        kinds();
        order();
        valueRange();
        valueOrder();
        ratioValues();
        sums();
        quotients();
        quotientBounds();
        Due.end();
    }

    private static void reads(String text, int want) {
        Due.due("reading " + text, Due.read(new SumHouse(), text, 0), want);
    }

    private static void lines() {
        Due.of(WHERE, "a, b are -3 .. 3, not both 0, c is -50 .. 50");
        for (int a = -4; a <= 4; a++) {
            int want = a == 0 ? 1 : Math.abs(a) <= 3 ? 2 : -12;
            reads("(n*(" + a + "))!", want);
            reads("(k*(" + a + "))!", want);
            reads("(n*(" + a + ")+3*k)!", Math.abs(a) <= 3 ? 2 : -12);
        }
        for (int c : new int[] {-51, -50, 50, 51}) {
            reads("(n+(" + c + "))!", Math.abs(c) <= 50 ? 2 : -12);
            reads("(k+(" + c + "))!", Math.abs(c) <= 50 ? 2 : -12);
        }
        reads("(3*n-3*k-50)!", 2);
        reads("(-3*n+3*k+50)!", 2);
    }

    private static void powers() {
        Due.of(WHERE, "each a, b, c once");
        SumHouse h = Due.house("n!*k!*n!*(n+1)!", "n!^3/n!^5");
        Due.due("three factorials", h.told(0, 2), 3);
        Due.due("n! twice", h.factorial(0, 1, 3), 2);
        Due.due("one factorial", h.told(1, 2), 1);
        Due.due("to the power -2", h.factorial(1, 0, 3), -2);
        Due.of(WHERE, "to a power e that is not 0");
        SumHouse g = Due.house("n!*k!/n!");
        Due.due("n! is gone", g.told(0, 2), 1);
        Due.due("k! is left", g.factorial(0, 0, 1), 1);
        Due.of(WHERE, "the sizes of all e are 12 in sum at most");
        reads("n!^12", 2);
        reads("n!^13", -14);
        reads("1/n!^12", 2);
        reads("n!^6/k!^6", 2);
        reads("n!^6/k!^7", -14);
        reads("n!^6/k!^6*(n+k)!", -14);
        reads("n!^6/k!^6/n!*(n+k)!", 2);
        reads("n!*(n+1)!*(n+2)!*(n+3)!*(n+4)!*(n+5)!*(n+6)!*(n+7)!*(n+8)!*(n+9)!*(n+10)!*(n+11)!", 2);
        reads("n!*(n+1)!*(n+2)!*(n+3)!*(n+4)!*(n+5)!*(n+6)!*(n+7)!*(n+8)!*(n+9)!*(n+10)!*(n+11)!*k!", -14);
        Due.of(WHERE, "and its ratio fits");
        reads("n^24*n!", 2);
        reads("(n^12*n!)*(n^12*k!)", 2);
        reads("(n^13*n!)*(n^12*k!)", -14);
        reads("(k!/k^6)/(k^6*n!)", 2);
        reads("(k!/k^6)/(k^7*n!)", -14);
    }

    private static void kinds() {
        Due.of(WHERE, "It has one factorial at least, or X or Y is not 1 (otherwise it is a ratio)");
        reads("n!", 2);
        reads("2^n", 2);
        reads("2^k", 2);
        reads("1^n", 1);
        reads("2^n*(1/2)^n", 1);
        reads("2^n*(1/2)^k", 2);
        reads("2^(n+k)/2^n", 2);
        reads("6^n/(2^n*3^n)", 1);
        reads("n!*k/n!", 1);
        reads("2^n*n!/n!", 2);
        reads("(-1)^(2*n)", 1);
        SumHouse h = Due.house("2^n*n!/n!");
        Due.due("no factorials", h.told(0, 2), 0);
        Due.of(WHERE, "A TERM is a ratio that is not 0");
        reads("0*n!", 1);
        reads("(n-n)*2^k", 1);
        Due.of(WHERE, "X, Y numbers that are not 0");
        reads("0^n", -13);
        reads("2147483647^k", -13);
    }

    private static void order() {
        Due.of(WHERE, "Factorials are told in the order of a, then b, then c, each rising");
        SumHouse h = Due.house("(n+k+1)!*(n+k-1)!*(n-k)!*n!*k!*(k-50)!*(k+50)!/(-3*n+3*k)!/(-3*n-3*k)!/(3*n-3*k)!/(0-k)!");
        int[][] want = {{-3, -3, 0, -1}, {-3, 3, 0, -1}, {0, -1, 0, -1}, {0, 1, -50, 1}, {0, 1, 0, 1},
            {0, 1, 50, 1}, {1, -1, 0, 1}, {1, 0, 0, 1}, {1, 1, -1, 1}, {1, 1, 1, 1}, {3, -3, 0, -1}};
        Due.due("how many", h.told(0, 2), want.length);
        for (int i = 0; i < want.length; i++) {
            for (int what = 0; what < 4; what++) {
                Due.due("factorial " + i + ", " + what, h.factorial(0, i, what), want[i][what]);
            }
        }
    }

    private static void valueRange() {
        Due.of(WHERE, "ITS VALUE at whole n, k, 0 .. 500 each (none for others)");
        SumHouse h = Due.house("2^n*3^k", "(3*n+3*k+50)!/(3*n+3*k+49)!", "1/(k-n)!");
        long both = Numbers.power(2, 500) * Numbers.power(3, 500) % P;
        Due.due("at 0, 0", h.value(0, 0, 0), 1);
        Due.due("at 500, 500", h.value(0, 500, 500), both);
        Due.due("at 501, 0", h.value(0, 501, 0), -1);
        Due.due("at 0, 501", h.value(0, 0, 501), -1);
        Due.due("at -1, 0", h.value(0, -1, 0), -1);
        Due.due("at 0, -1", h.value(0, 0, -1), -1);
        Due.due("at P, 0, which is no rest here", h.value(0, P, 0), -1);
        Due.due("at 0, -P", h.value(0, 0, -P), -1);
        Due.due("at the least int", h.value(0, Integer.MIN_VALUE, Integer.MIN_VALUE), -1);
        Due.due("3050! by 3049!", h.value(1, 500, 500), 3050);
        Due.due("1 by (-500)!", h.value(2, 500, 0), 0);
        Due.due("1 by 500!", h.value(2, 0, 500), Numbers.power(Numbers.factorial(500), P - 2));
    }

    private static void valueOrder() {
        Due.of(WHERE, "none, if a factorial with e above 0 is one of a number below 0, or the ratio's denominator is 0 there");
        SumHouse h = Due.house("(n-k)!", "(n-k)!/(k-n-5)!", "n!/(k-3)", "1/(n-k)!/(k-3)", "(n-k)!*(k-4)");
        Due.due("0!", h.value(0, 3, 3), 1);
        Due.due("(-1)!", h.value(0, 3, 4), -1);
        Due.due("(-1)! ahead of 1 by (-4)!", h.value(1, 3, 4), -1);
        Due.due("denominator 0", h.value(2, 3, 3), -1);
        Due.due("denominator 0 ahead of 1 by (-2)!", h.value(3, 1, 3), -1);
        Due.due("(-1)! ahead of a numerator that is 0", h.value(4, 3, 4), -1);
        Due.of(WHERE, "else 0, if one with e below 0 is one of a number below 0");
        SumHouse g = Due.house("1/(n-k)!", "5/(n-k)!^2*k!", "(k-4)*n!");
        Due.due("1 by 0!", g.value(0, 3, 3), 1);
        Due.due("1 by (-1)!", g.value(0, 3, 4), 0);
        Due.due("1 by (-1)! twice", g.value(1, 3, 4), 0);
        Due.due("1 by 1! twice", g.value(1, 3, 2), 10);
        Due.of(WHERE, "else as it says (X^n and so on; factorials modulo P)");
        Due.due("a numerator that is 0", g.value(2, 3, 4), 0);
        SumHouse f = Due.house("(n+1)*2^n*5^k*k!^3/n!^2");
        Due.due("4 * 8 * 25 * 8 / 36", f.value(0, 3, 2), 6400L * Numbers.power(36, P - 2) % P);
        SumHouse e = Due.house("n!");
        Due.due("500!", e.value(0, 500, 7), Numbers.factorial(500));
    }

    private static void ratioValues() {
        Due.of(WHERE, "Of a ratio at any numbers n, k: none if the denominator is 0");
        SumHouse h = Due.house("(n+k)/(n-k)", "n", "1/(n-3)/(k+4)");
        Due.due("at 501, 500", h.value(0, 501, 500), 1001);
        Due.due("at -1, 1", h.value(0, -1, 1), 0);
        Due.due("at 7, 7", h.value(0, 7, 7), -1);
        Due.due("at -1 and P - 1, which are the same", h.value(0, -1, P - 1), -1);
        Due.due("at P", h.value(1, P, 0), 0);
        Due.due("at 3", h.value(2, 3, 9), -1);
        Due.due("at -4", h.value(2, 9, -4), -1);
        Due.due("at 4, -3", h.value(2, 4, -3), 1);
        Due.of("Promise 16", "The value of a ratio at numbers n, k, or of a term at whole ones; NONE");
        RowsTest.row(h, 5, new int[][] {{-1}, {1}}, 1);
        Due.due("of a record", h.value(10, 0, 0), -3);
        Due.due("of a row", h.value(5, 0, 0), -3);
        Due.due("of an empty slot", h.value(8, 0, 0), -3);
    }

    private static void sums() {
        Due.of("Promise 17", "The sum of the values of a ratio or term at n and k = low .. high, 0 .. 500 all (NONE otherwise");
        SumHouse h = Due.house("k+n", "2^k", "1/(k-5)", "(5-k)!", "0", "1/(n-5)");
        Due.due("one value", h.sum(0, 7, 3, 3), 10);
        Due.due("all", h.sum(0, 0, 0, 500), 125250);
        Due.due("at n = 500", h.sum(0, 500, 0, 0), 500);
        Due.due("n = 501", h.sum(0, 501, 0, 0), -1);
        Due.due("n = -1", h.sum(0, -1, 0, 0), -1);
        Due.due("low = -1", h.sum(0, 0, -1, 0), -1);
        Due.due("high = 501", h.sum(0, 0, 500, 501), -1);
        Due.due("low = 500 = high", h.sum(0, 0, 500, 500), 500);
        Due.due("low = 501 = high", h.sum(0, 0, 501, 501), -1);
        Due.due("a term up to 500", h.sum(1, 0, 0, 500), (Numbers.power(2, 501) + P - 1) % P);
        Due.of("Promise 17", "then 0 if high is below low");
        Due.due("high one below low", h.sum(0, 0, 4, 3), 0);
        Due.due("500 and 0", h.sum(0, 0, 500, 0), 0);
        Due.due("low = 501, high below", h.sum(0, 0, 501, 4), -1);
        Due.due("high = -1 below low", h.sum(0, 0, 0, -1), -1);
        Due.due("where no value is looked at", h.sum(5, 5, 4, 3), 0);
        Due.of("Promise 17", "NONE when one of them has none");
        Due.due("the last one", h.sum(2, 0, 0, 5), -1);
        Due.due("without it", h.sum(2, 0, 4, 4), P - 1);
        Due.due("the first one", h.sum(2, 0, 5, 9), -1);
        Due.due("behind it", h.sum(2, 0, 6, 6), 1);
        Due.due("a term's", h.sum(3, 0, 4, 6), -1);
        Due.due("a term's without it", h.sum(3, 0, 4, 5), 2);
        Due.due("0 has values", h.sum(4, 0, 0, 500), 0);
    }

    /** The quotient is that text, and is that of the values next to each other. */
    private static void quotient(String text, int way, String want) {
        SumHouse h = Due.house(text);
        Due.due("quotient of " + text + " along " + way, Due.came(h, h.quotient(0, way, 1), 1), Due.plain(want));
        for (int n = 0; n < 12; n++) {
            for (int k = 0; k < 6; k++) {
                long here = h.value(0, n, k);
                long next = way == 0 ? h.value(0, n + 1, k) : h.value(0, n, k + 1);
                long q = h.value(1, n, k);
                if (here > 0 && next >= 0 && q >= 0) {
                    Due.due(text + " at " + n + ", " + k + " along " + way, here * q % P, next);
                }
            }
        }
    }

    private static void quotients() {
        Due.of(WHERE, "of (a n + b k + c)! along k that is (x + 1) .. (x + b)");
        quotient("(n+k)!", 1, "n+k+1");
        quotient("(n+3*k-2)!", 1, "(n+3*k-1)*(n+3*k)*(n+3*k+1)");
        quotient("1/(n+2*k)!^2", 1, "1/((n+2*k+1)*(n+2*k+2))^2");
        Due.of(WHERE, "or 1 by x (x - 1) .. (x + b + 1) for b below 0");
        quotient("(n-k)!", 1, "1/(n-k)");
        quotient("(3*n-3*k+1)!", 1, "1/((3*n-3*k+1)*(3*n-3*k)*(3*n-3*k-1))");
        quotient("1/(2*n-2*k)!^2", 1, "((2*n-2*k)*(2*n-2*k-1))^2");
        quotient("(n+5)!", 1, "1");
        Due.of(WHERE, "likewise along n");
        quotient("(2*n+k)!", 0, "(2*n+k+1)*(2*n+k+2)");
        quotient("(3*k-n)!", 0, "1/(3*k-n)");
        quotient("(3*k-3*n)!", 0, "1/((3*k-3*n)*(3*k-3*n-1)*(3*k-3*n-2))");
        quotient("(k+5)!", 0, "1");
        quotient("5^n*2^k", 0, "5");
        quotient("5^n*2^k", 1, "2");
        quotient("n*k*C(n,k)/(n+k)", 0, "(n+1)^2*(n+k)/(n*(n+1-k)*(n+k+1))");
        quotient("n*k*C(n,k)/(n+k)", 1, "(k+1)*(n-k)*(n+k)/(k*(k+1)*(n+k+1))");
        Due.of(WHERE, "a ratio's own quotient is itself with n + 1, or k + 1, by itself");
        quotient("(n^2+k)/(n-k)", 0, "(n^2+2*n+1+k)*(n-k)/((n+1-k)*(n^2+k))");
        quotient("(n^2+k)/(n-k)", 1, "(n^2+k+1)*(n-k)/((n-k-1)*(n^2+k))");
        quotient("7", 0, "1");
        quotient("7", 1, "1");
    }

    private static void quotientBounds() {
        Due.of("Promise 18", "The quotient of a ratio (NONE of 0) or a term along n (way 0) or k (1): 1");
        SumHouse h = Due.house("0", "n", "n!", "n^12+3", "(n^12+3)/(n^12+5)", "(n^12+3)/(n^13+5)", "(k^6+2)/(k^6+3)",
                "(k^6+2)/(k^7+3)", "(3*n)!^8", "(3*n)!^8*n!");
        Due.due("of 0", h.quotient(0, 0, 11), -1);
        Due.due("of n", h.quotient(1, 0, 11), 1);
        Due.due("of a term", h.quotient(2, 1, 11), 1);
        Due.due("way 2", h.quotient(1, 2, 11), -1);
        Due.due("way -1", h.quotient(1, -1, 11), -1);
        Due.due("of 0 along 2", h.quotient(0, 2, 11), -1);
        Due.of("Promise 18", "NONE for others; LARGE");
        Due.due("12 and 12 above", h.quotient(4, 0, 11), 1);
        Due.due("degree 24", h.degree(11, 0, 0), 24);
        Due.due("12 and 13", h.quotient(5, 0, 11), -2);
        Due.due("6 and 6 above", h.quotient(6, 1, 11), 1);
        Due.due("degree 12", h.degree(11, 1, 1), 12);
        Due.due("6 and 7", h.quotient(7, 1, 11), -2);
        Due.due("(3 n)! eight times", h.quotient(8, 0, 11), 1);
        Due.due("degree 24 again", h.degree(11, 0, 0), 24);
        Due.due("and n! once more", h.quotient(9, 0, 11), -2);
        Due.due("12 along n is no bound along k", h.quotient(9, 1, 11), 1);
        Due.due("1", Due.text(h, 11), "1");
    }

    /** Numbers modulo P, for the answers that are due. */
    private static final class Numbers {
        static long power(long base, long e) {
            long made = 1;
            for (long left = e, square = base % P; left > 0; left /= 2) {
                made = left % 2 == 1 ? made * square % P : made;
                square = square * square % P;
            }
            return made;
        }

        static long factorial(int n) {
            long made = 1;
            for (int i = 2; i <= n; i++) {
                made = made * i % P;
            }
            return made;
        }
    }
}
