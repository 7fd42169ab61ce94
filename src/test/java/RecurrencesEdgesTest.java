/** "Terms", section 5, and promises 21 to 25: recurrences for sums and their records, at the bounds. */
public final class RecurrencesEdgesTest {
    private static final String WHERE = "Terms 5";
    private static final String FITS = "all of s_0 .. s_J, and t's quotient along k, must fit first";
    private static final String LARGE = "LARGE: .. at a j, before its equation is looked at";

    public static void main(String[] args) {
        orders();
        whatMustFit();
        formsAndEquations();
        whatIsModest();
        leastMultiples();
        withoutX();
        polynomials();
        whatComes();
        largeRecords();
        parts();
        checks();
        checksThatFit();
        pokesOfSteps();
        pokesOfR();
        holding();
        Due.end();
    }

    /** The orders answered up to 0, 1, 2, 3; a record that comes is right, and holds where it can. */
    private static void orders(String text, int... want) {
        for (int most = 0; most < want.length; most++) {
            SumHouse h = Due.house(text);
            Due.due("recur up to " + most + " of " + text, h.recur(0, most, 1), want[most]);
            Due.due("kind", h.kind(1), want[most] < 0 ? 0 : 3);
            if (want[most] >= 0) {
                isRight(h, text);
            }
        }
    }

    private static void isRight(SumHouse h, String text) {
        Due.due("the order for " + text, h.told(1, 3) >= 0 ? 1 : 0, 1);
        Due.due("it is right for " + text, h.check(1, 0), 1);
        int holds = 0;
        for (int n = 1; n < 20; n++) {
            int answer = h.holds(1, 0, n, 1, 5);
            Due.due("it holds for " + text + " at " + n + " or has no value", answer == 0 ? 0 : 1, 1);
            holds += answer == 1 ? 1 : 0;
        }
        Due.due("it holds somewhere for " + text, holds > 0 ? 1 : 0, 1);
    }

    private static void orders() {
        Due.of("Promise 21", "The record of a recurrence for the sums of a term, or of a ratio (NONE of 0), up to order most, 0 .. 3");
        orders("(-1)^k*C(n,k)", 0, 0, 0, 0);
        orders("C(n,k)", -1, 1, 1, 1);
        orders("C(n,k)^3", -1, -1, 2, 2);
        orders("C(n,3*k)", -1, -1, -1, 3);
        orders("1/(n*k+1)", -1, -1, -1, -1);
        orders("1/(n+k)", -1, 1, 1, 1);
        orders("k", 0, 0, 0, 0);
        orders("0", -1, -1, -1, -1);
        Due.of("Promise 21", "NONE for others, or when there is none");
        SumHouse h = Due.house("C(n,k)", "0", "k!^9", "(3*k)!^5");
        for (int most : new int[] {-1, 4, Integer.MAX_VALUE, Integer.MIN_VALUE}) {
            Due.due("up to " + most, h.recur(0, most, 1), -1);
            Due.due("of what is LARGE, up to " + most, h.recur(2, most, 1), -1);
            Due.due("of what does not fit, up to " + most, h.recur(3, most, 1), -1);
        }
        Due.due("of 0 up to 9", h.recur(1, 9, 1), -1);
        Due.due("into its own place", h.recur(0, 1, 0), 1);
        Due.due("a record", h.kind(0), 3);
    }

    private static void whatMustFit() {
        Due.of(WHERE, FITS);
        // s_3 has degree 24 in n, then 27; it is looked at though order 0 would do
        orders("n!^8", 0, 0, 0, 0);
        orders("n!^9", 0, 0, 0, -2);
        // s_3 has degree 12 in k, then 15
        orders("(n+k)!^4", -1, 1, 1, 1);
        orders("(n+k)!^5", -1, 1, 1, -2);
        // below
        orders("1/n!^8", 0, 0, 0, 0);
        orders("1/n!^9", 0, 0, 0, -2);
        // the quotient has degree 12, then 13
        orders("k^8*k!^4", -1, 1, 1, 1);
        orders("k^8*k!^5", -2, -2, -2, -2);
    }

    private static void formsAndEquations() {
        Due.of(WHERE, LARGE + ": the form is not modest");
        orders("k!^8", -1, 1, 1, 1);
        orders("k!^9", -2, -2);
        orders("1/k!^9", -2, -2);
        orders("2^k*(k+n^12)", 0);
        orders("2^k*(k+n^13)", -2);
        Due.of(WHERE, LARGE + ": .. or the equation is LARGE");
        orders("k^7", 0, 0, 0, 0);
        orders("k^8", -2, -2, -2, -2);
        orders("2^k*k^8", 0, 0);
        // A has degree 3, s_1 8 and C 3, then 4: depth 8, then 9
        orders("k^3*(3*n+k)!^2*(2*n+k)!", -1, -1);
        orders("k^4*(3*n+k)!^2*(2*n+k)!", -1, -2);
        // what comes at a j goes ahead of what would be LARGE at the next
        orders("(n+k)!^8", -1, 1);
        orders("1/(n+k)!^8", -1, 1);
    }

    private static void whatIsModest() {
        Due.of(WHERE, LARGE + ": .. or Q or a p_i is no ratio as told there for modest");
        // s_1 has degree 12 in n, then 13, above; then below
        orders("n!^12/k", -1, 1);
        orders("n*n!^12/k", -1, -2);
        orders("1/n!^12/k", -1, 1);
        orders("1/(n*n!^12)/k", -1, -2);
        // s_1 has degree 8 in k, then 9, above; then below
        orders("(3*n+k)!^2*(2*n+k)!", -1, -1);
        orders("(3*n+k)!^3", -1, -2);
        orders("1/(3*n+k)!^2/(2*n+k)!", -1, -1);
        orders("1/(3*n+k)!^3", -1, -2);
        // Q has degree 12 in n, then 13
        orders("(k+n^6)/(2*k+n^6)", -1, -1);
        orders("(k+n^6)/(2*k+n^7)", -1, -2);
    }

    private static void leastMultiples() {
        Due.of(WHERE, "Q the least common multiple, monic along k, of the denominators of s_0 .. s_j; p_i = s_i Q");
        orders("1/((n+k)*(n+k+1))", 0, 0, 0);
        orders("1/(n+2*k)", -1, -1, 2, 2);
        orders("C(n,k)/(n+k)", -1, -1);
        orders("1/C(n,k)", -1, 1, 1);
        orders("C(2*n,k)^2", -1, 1, 1);
        orders("C(n,k)/C(2*n,k)", 0, 0);
        orders("k!*(n+k)", -1, 1, 1, 1);
        orders("2^k*k^8/(k+n)", -1, 1, 1, 1);
    }

    private static void withoutX() {
        Due.of(WHERE, "with a depth below 0 for x = 0 alone");
        SumHouse h = Due.house("(n+k)*k!^8", "(n^2+n*k+3*k^2)*k!^8");
        Due.due("(n + k) k!^8", h.recur(0, 3, 2), 2);
        Due.due("R is 0", step(h, 2, -1), "0");
        // (n + k) - 2 (n + 1 + k) + (n + 2 + k)
        Due.due("a_0", step(h, 2, 0), "1");
        Due.due("a_1", step(h, 2, 1), "-2");
        Due.due("a_2", step(h, 2, 2), "1");
        Due.due("it is right", h.check(2, 0), 1);
        Due.due("three parts need order 3", h.recur(1, 2, 3), -1);
        Due.due("which comes", h.recur(1, 3, 3), 3);
        Due.due("R is 0", step(h, 3, -1), "0");
        for (int i = 0; i <= 3; i++) {
            Due.due("a_" + i, step(h, 3, i), new String[] {"-1", "3", "-3", "1"}[i]);
        }
        orders("k!^8", -1, 1, 1, 1);
    }

    private static String step(SumHouse h, int slot, int m) {
        return Due.came(h, h.part(slot, m, 11), 11);
    }

    private static void record(String text, int most, String... want) {
        SumHouse h = Due.house(text);
        Due.due("order for " + text, h.recur(0, most, 1), want.length - 2);
        for (int m = -1; m < want.length - 1; m++) {
            Due.due("part " + m + " for " + text, step(h, 1, m), Due.plain(want[m + 1]));
        }
    }

    private static void polynomials() {
        Due.of(WHERE, "they become polynomials in n without a common divisor, the last with head 1");
        record("C(n,k)", 3, "k/(k-n-1)", "0-2", "1");
        record("n!^8", 3, "k", "1");
        record("n!*k!*(n+k)", 3, "(0-1)/(n+k)*(n+1)", "0-(n+1)^2", "n");
        record("C(n,2*k)", 3, "(4*k^2-2*k)/(2*n*k-n^2-n)", "0-2", "1");
        record("1/(n+k)", 1, "1", "0-1", "1");
        record("3^n/(n+k)", 1, "3", "0-3", "1");
        record("n/k", 1, "0", "0-n-1", "n");
        record("1/(3*n+1)/k", 1, "0", "0-n-1/3", "n+4/3");
        Due.of(WHERE, "the equation for Z = C (a_0 p_0 + .. + a_j p_j), with a_i ratios in n that are not all 0");
        record("1/(n+2*k)", 3, "1", "0-1", "0", "1");
        record("(-1)^k*C(n,k)", 3, "(0-k)/n", "1");
    }

    private static void whatComes() {
        Due.of(WHERE, "LARGE: .. what comes does not fit");
        // the a_i have degree 12 + 10 + 5 - 3, then one more
        orders("(n^12+3+(n^10+1)*k+(n^5+n)*k^2)*k!^8", -1, -1, -1, 3);
        orders("(n^12+3+(n^10+1)*k+(n^6+n)*k^2)*k!^8", -1, -1, -1, -2);
        // R has that degree above, while the a_i have less
        orders("(n^12+3+(n^10+1)*k+(n^5+n)*k^2)*k!^2", -1, -1, 2, 2);
        orders("(n^12+3+(n^10+1)*k+(n^6+n)*k^2)*k!^2", -1, -1, -2, -2);
        // a_3 alone has degree 24, then 25
        orders("(n^12+3+(n^8+1)*k+(n^4+n)*k^2)*k!^8/n!", -1, -1, -1, 3);
        orders("(n^12+3+(n^8+1)*k+(n^5+n)*k^2)*k!^8/n!", -1, -1, -1, -2);
        SumHouse h = Due.house("(n^12+3+(n^10+1)*k+(n^5+n)*k^2)*k!^8", "(n^12+3+(n^10+1)*k+(n^5+n)*k^2)*k!^2");
        h.recur(0, 3, 2);
        Due.due("the number at n^24 of a_3", h.number(2, 5, 24, 0), 1);
        h.recur(1, 2, 3);
        Due.due("R in n", h.degree(3, 0, 0), 24);
        Due.due("a_2 at n^21", h.number(3, 4, 21, 0), 1);
        Due.due("a_2 at n^22", h.number(3, 4, 22, 0), 0);
    }

    /** What is worked out for a check has no bounds: a record with all its numbers at n^24 and k^12. */
    private static void largeRecords() {
        Due.of(WHERE, "RIGHT .. as one of ratios (s_i, the quotient along k), none being out of bounds however large what it is worked out by");
        SumHouse h = Due.house("C(n,k)", "C(n,3*k)", "(3*n)!^4*(3*k)!^4/(3*n+1)!^4", "n^24*k^12", "1/(n^24+n*k^5+k^12+7)");
        h.recur(0, 1, 5);
        // (n^24, 0 ..) times what it is: a_0 = -2 n^24, a_1 = n^24, R = n^24 k by k - n - 1
        h.poke(5, 0, 0, 0, 0);
        h.poke(5, 0, 24, 0, -2);
        Due.due("half of it", h.check(5, 0), 0);
        h.poke(5, 1, 0, 0, 0);
        h.poke(5, 1, 24, 0, 1);
        h.poke(5, -1, 0, 1, 0);
        h.poke(5, -1, 24, 1, 1);
        // R went to 0 by 1 on the way
        Due.due("R without its denominator", h.check(5, 0), 0);
        h.recur(0, 1, 5);
        h.poke(5, -1, 24, 1, 1);
        h.poke(5, -1, 0, 1, 0);
        h.poke(5, 0, 0, 0, 0);
        h.poke(5, 0, 24, 0, -2);
        h.poke(5, 1, 0, 0, 0);
        h.poke(5, 1, 24, 0, 1);
        Due.due("n^24 times a record", h.check(5, 0), 1);
        Due.due("it holds", h.holds(5, 0, 9, 1, 4), 1);
        h.poke(5, 1, 23, 0, 1);
        Due.due("a_1 with n^23", h.check(5, 0), 0);
        h.recur(1, 3, 6);
        for (int m = 0; m <= 3; m++) {
            for (int i = 0; i <= 24; i++) {
                h.poke(6, m, i, 0, 1000 * m + i * i + 1);
            }
        }
        for (int i = 0; i <= 24; i++) {
            for (int j = 0; j <= 12; j++) {
                h.poke(6, -1, i, j, 31 * i * i + 17 * j * j * j + i * j + 5);
            }
        }
        for (int slot = 0; slot <= 4; slot++) {
            Due.due("all numbers at their bounds, for slot " + slot, h.check(6, slot), 0);
        }
    }

    private static void parts() {
        Due.of("Promise 22", "R of a record (part -1), or a_part as a polynomial: 1; of a row's recurrence likewise, without -1");
        SumHouse h = Due.house("C(n,k)*C(n+k,k)");
        h.recur(0, 2, 1);
        h.row(1, 2);
        String[] want = {"n+1", "-6*n-9", "n+2"};
        for (int m = 0; m <= 2; m++) {
            Due.due("a record's " + m, step(h, 1, m), want[m]);
            Due.due("a row's " + m, step(h, 2, m), want[m]);
        }
        Due.due("R", h.part(1, -1, 3), 1);
        for (int which = 0; which < 2; which++) {
            for (int way = 0; way < 2; way++) {
                Due.due("degrees of R", h.degree(3, which, way), h.degree(1, which, way));
            }
        }
        Due.of("Promise 22", "NONE for others");
        int[] others = {3, -2, Integer.MAX_VALUE, Integer.MIN_VALUE};
        for (int part : others) {
            Due.due("a record's " + part, h.part(1, part, 4), -1);
            Due.due("a row's " + part, h.part(2, part, 4), -1);
        }
        Due.due("a row's -1", h.part(2, -1, 4), -1);
        Due.due("nothing came", h.kind(4), 0);
        h.poke(1, 1, 24, 0, 7);
        Due.due("a poked one", step(h, 1, 1), "7*n^24-6*n-9");
        h.poke(1, 1, 24, 0, 0);
        h.poke(1, 1, 1, 0, 0);
        h.poke(1, 1, 0, 0, 0);
        Due.due("one that is 0", step(h, 1, 1), "0");
    }

    private static void checks() {
        Due.of("Promise 23", "Whether a record is right for a term, or a ratio that is not 0 (NONE for that): 1 or 0");
        SumHouse h = Due.house("C(n,k)", "0", "1/(n+k)", "n", "7*C(n,k)", "k*C(n,k)");
        h.recur(0, 1, 8);
        h.recur(2, 1, 9);
        Due.due("its term", h.check(8, 0), 1);
        Due.due("a multiple", h.check(8, 4), 1);
        Due.due("another", h.check(8, 5), 0);
        Due.due("a ratio", h.check(9, 2), 1);
        Due.due("the other's term", h.check(9, 0), 0);
        Due.due("the other's ratio", h.check(8, 2), 0);
        Due.due("0", h.check(8, 1), -1);
        // a record of order 0 for 1: R k, a_0 1
        h.recur(3, 0, 10);
        Due.due("order 0", h.check(10, 3), 1);
        Due.due("order 0 for another", h.check(10, 0), 0);
        h.poke(10, 0, 0, 0, 0);
        Due.due("0 n = n - ..", h.check(10, 3), 0);
        h.poke(10, -1, 0, 1, 0);
        Due.due("all is 0", h.check(10, 3), 1);
        Due.due("all is 0 for any", h.check(10, 5), 1);
    }

    private static void checksThatFit() {
        Due.of("Promise 23", "LARGE when an s_i or the quotient does not fit");
        SumHouse h = Due.house("C(n,k)", "n!^8", "n!^9", "(3*k)!^4", "(3*k)!^4*k!", "(n+k)!^4", "(n+k)!^5", "(-1)^k*C(n,k)", "C(n,3*k)");
        h.recur(8, 3, 9);
        h.recur(0, 1, 10);
        h.recur(7, 0, 11);
        Due.due("s_3 of degree 24", h.check(9, 1), 0);
        Due.due("s_3 of degree 27", h.check(9, 2), -2);
        Due.due("s_1 of degree 9", h.check(10, 2), 0);
        Due.due("s_3 of degree 12 in k", h.check(9, 5), 0);
        Due.due("s_3 of degree 15 in k", h.check(9, 6), -2);
        Due.due("s_1 of degree 5 in k", h.check(10, 6), 0);
        for (int record = 9; record <= 11; record++) {
            Due.due("a quotient of degree 12", h.check(record, 3), 0);
            Due.due("a quotient of degree 13", h.check(record, 4), -2);
        }
    }

    private static void pokesOfSteps() {
        Due.of("Promise 24", "The number at n^i of a_m of a record becomes v .. what it was");
        SumHouse h = Due.house("C(n,k)");
        h.recur(0, 1, 1);
        Due.due("a_0 was -2", h.poke(1, 0, 0, 0, 5), 2147483645);
        Due.due("then 5", h.poke(1, 0, 0, 0, -5), 5);
        Due.due("then -5", h.number(1, 2, 0, 0), 2147483642);
        Due.due("n^24 of a_1", h.poke(1, 1, 24, 0, 9), 0);
        Due.due("n^24 is 9", h.number(1, 3, 24, 0), 9);
        Due.due("no common divisor is looked for: 1", h.number(1, 3, 0, 0), 1);
        Due.due("the order stays", h.told(1, 3), 1);
        h.poke(1, 1, 24, 0, 0);
        h.poke(1, 1, 0, 0, 0);
        Due.due("the order stays with a_1 = 0", h.told(1, 3), 1);
        Due.of("Promise 24", "NONE when there is no such a_m, i is not 0 .. 24, or j not 0 .. 12 (0 for a_m)");
        int[] parts = {-2, 2, Integer.MIN_VALUE, Integer.MAX_VALUE};
        for (int m : parts) {
            Due.due("m = " + m, h.poke(1, m, 0, 0, 7), -1);
        }
        for (int m = -1; m <= 1; m++) {
            Due.due("i = -1 of " + m, h.poke(1, m, -1, 0, 7), -1);
            Due.due("i = 25 of " + m, h.poke(1, m, 25, 0, 7), -1);
            Due.due("i = 24 of " + m, h.poke(1, m, 24, 0, 0), 0);
            Due.due("j = -1 of " + m, h.poke(1, m, 0, -1, 7), -1);
            Due.due("j = 13 of " + m, h.poke(1, m, 0, 13, 7), -1);
            Due.due("j = 12 of " + m, h.poke(1, m, 0, 12, 0), m < 0 ? 0 : -1);
            Due.due("j = 1 of " + m, h.poke(1, m, 2, 1, 0), m < 0 ? 0 : -1);
            Due.due("i, j far off", h.poke(1, m, Integer.MAX_VALUE, Integer.MIN_VALUE, 7), -1);
        }
    }

    private static void pokesOfR() {
        Due.of("Promise 24", "(m -1: that at n^i k^j of R's numerator) .. R is brought to lowest terms again; the a_m stay as they are then");
        SumHouse h = Due.house("C(n,k)");
        h.recur(0, 1, 1);
        // R is k by k - n - 1
        Due.due("n^24 k^12", h.poke(1, -1, 24, 12, 3), 0);
        Due.due("R", step(h, 1, -1), "(3*n^24*k^12+k)/(k-n-1)");
        Due.due("back", h.poke(1, -1, 24, 12, 0), 3);
        Due.due("degrees again", h.degree(1, 0, 0) * 100 + h.degree(1, 0, 1), 1);
        // k^2 - (n + 1)^2 is (k - n - 1) (k + n + 1)
        h.poke(1, -1, 0, 2, 1);
        h.poke(1, -1, 0, 1, 0);
        h.poke(1, -1, 2, 0, -1);
        h.poke(1, -1, 1, 0, -2);
        Due.due("before the last one", h.degree(1, 1, 1), 1);
        Due.due("the last one", h.poke(1, -1, 0, 0, -1), 0);
        Due.due("R in lowest terms", step(h, 1, -1), "k+n+1");
        Due.due("the number at n^2 is another's now", h.poke(1, -1, 2, 0, 0), 0);
        Due.due("k", h.poke(1, -1, 0, 1, 0), 1);
        Due.due("n", h.poke(1, -1, 1, 0, 0), 1);
        Due.due("1", h.poke(1, -1, 0, 0, 0), 1);
        Due.due("R is 0", step(h, 1, -1), "0");
        Due.due("by 1", h.number(1, 1, 0, 0), 1);
        Due.due("a_0 stays", h.number(1, 2, 0, 0), 2147483645);
        Due.due("a_1 stays", h.number(1, 3, 0, 0), 1);
    }

    private static void holding() {
        Due.of("Promise 25", "the sum over j of a_j(n) times the sum of its values at n + j, k = low .. high, is R's times its value at high + 1 less at low (n): 1 or 0");
        SumHouse h = Due.house("C(n,k)", "C(n,3*k)", "(-1)^k*C(n,k)", "0", "n+k", "1/(k-7)", "(9-k)!");
        h.recur(0, 1, 7);
        h.recur(1, 3, 8);
        h.recur(2, 0, 9);
        Due.due("order 1", h.holds(7, 0, 10, 2, 6), 1);
        Due.due("order 3", h.holds(8, 1, 30, 2, 6), 1);
        Due.due("order 0", h.holds(9, 2, 10, 2, 6), 1);
        Due.due("not for another", h.holds(7, 4, 10, 2, 6), 0);
        Due.due("for 0", h.holds(7, 3, 10, 2, 6), 1);
        Due.due("high one below low", h.holds(7, 0, 10, 3, 2), 1);
        Due.due("high two below low", h.holds(7, 0, 10, 4, 2), 0);
        Due.of("Promise 25", "or n + j, low, high, high + 1 are not 0 .. 500 all");
        Due.due("n = 499, order 1", h.holds(7, 0, 499, 2, 6), 1);
        Due.due("n = 500, order 1", h.holds(7, 0, 500, 2, 6), -1);
        Due.due("n = 497, order 3", h.holds(8, 1, 497, 2, 6), 1);
        Due.due("n = 498, order 3", h.holds(8, 1, 498, 2, 6), -1);
        Due.due("n = 500, order 0", h.holds(9, 2, 500, 2, 6), 1);
        Due.due("n = 501, order 0", h.holds(9, 2, 501, 2, 6), -1);
        Due.due("n = -1", h.holds(7, 0, -1, 2, 6), -1);
        Due.due("n the greatest int", h.holds(7, 0, Integer.MAX_VALUE, 2, 6), -1);
        Due.due("low = 0", h.holds(7, 0, 10, 0, 6), 1);
        Due.due("low = -1", h.holds(7, 0, 10, -1, 6), -1);
        Due.due("low = 500, high 499", h.holds(7, 0, 10, 500, 499), 1);
        Due.due("low = 501, high 499", h.holds(7, 0, 10, 501, 499), -1);
        Due.due("high = 499", h.holds(7, 0, 10, 20, 499), 1);
        Due.due("high = 500", h.holds(7, 0, 10, 20, 500), -1);
        Due.due("high = 0, low = 0", h.holds(7, 0, 10, 0, 0), 1);
        Due.due("high = -1, low = 0", h.holds(7, 0, 10, 0, -1), -1);
        Due.due("high the greatest int", h.holds(7, 0, 10, 0, Integer.MAX_VALUE), -1);
        // a ratio has values beyond 500, which are not looked at
        SumHouse g = Due.house("1/(n+k)");
        g.recur(0, 1, 1);
        Due.due("a ratio, high = 499", g.holds(1, 0, 499, 0, 499), 1);
        Due.due("a ratio, high = 500", g.holds(1, 0, 499, 0, 500), -1);
        Due.due("a ratio, low = 501", g.holds(1, 0, 499, 501, 499), -1);
        Due.due("a ratio, low = -1", g.holds(1, 0, 499, -1, 499), -1);
        Due.due("a ratio, n = 500", g.holds(1, 0, 500, 0, 499), -1);
        Due.due("a ratio, n = -1", g.holds(1, 0, -1, 2, 499), -1);
        Due.due("a ratio, high = -1", g.holds(1, 0, 499, 0, -1), -1);
        Due.of("Promise 25", "NONE when one of these values, or R at these two places, has none");
        // R's denominator is k - n - 1
        Due.due("R at high + 1 = n + 1", h.holds(7, 0, 10, 2, 10), -1);
        Due.due("R at low = n + 1", h.holds(7, 0, 10, 11, 20), -1);
        // -2 (2^10 - 11) + (2^11 - 12) is 10: R t at 2 is -2/9 45 = -10, and 0 at 21
        Due.due("R has none in between, which is none of these", h.holds(7, 0, 10, 2, 20), 1);
        Due.due("a value in between", h.holds(7, 5, 10, 5, 8), -1);
        Due.due("a value at high + 1", h.holds(7, 5, 10, 3, 6), -1);
        Due.due("none of these", h.holds(7, 5, 10, 3, 5), 0);
        Due.due("a value at low alone", h.holds(7, 5, 10, 7, 6), -1);
        Due.due("a term's at high + 1", h.holds(7, 6, 10, 3, 9), -1);
        Due.due("a term's before", h.holds(7, 6, 10, 3, 8), 0);
    }
}
