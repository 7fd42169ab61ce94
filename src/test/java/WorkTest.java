/** Promises 14 and 15: work and change. */
public final class WorkTest {
    private static final int P = 2147483647;

    public static void main(String[] args) {
        sums();
        products();
        divisors();
        resultants();
        changedRatios();
        changedTerms();
        bounds();
        Due.end();
    }

    private static void work(int op, String a, String b, String want) {
        SumHouse h = Due.house(a, b);
        int kind = h.work(op, 0, 1, 2);
        Due.due("work " + op + " of " + a + " and " + b, kind < 0 ? String.valueOf(kind) : Due.text(h, 2), want);
        Due.due("its kind", h.kind(2), Math.max(kind, 0));
    }

    private static void change(int op, String a, int v, String want) {
        SumHouse h = Due.house(a);
        int kind = h.change(op, 0, v, 1);
        Due.due("change " + op + " of " + a + " by " + v, kind < 0 ? String.valueOf(kind) : Due.text(h, 1), want);
        Due.due("its kind", h.kind(1), Math.max(kind, 0));
    }

    private static void sums() {
        work(0, "1/k", "1/(k+1)", "(2*k+1)/(k^2+k)");
        work(1, "n/(n+k)", "-k/(n+k)", "1");
        work(1, "n", "n", "0");
        work(0, "n!", "n", "-3");
        work(1, "n", "n!", "-3");
        work(0, "1/(n^13+k)", "1/(n^12+k)", "-2");
    }

    private static void products() {
        work(2, "n/(k+1)", "(k^2-1)/n^2", "(k-1)/(n)");
        work(2, "C(n,k)*2^n", "k!*(n-k)!*3^k", "(1)*2^n*3^k*(n)!");
        work(2, "n!", "1/n!", "1");
        work(2, "n!", "0", "0");
        work(2, "n!^6", "k!^7", "-2");
        work(2, "n^13", "n^12", "-2");
        work(3, "n^2-k^2", "n+k", "-k+n");
        work(3, "n!*2^k", "n!*6^k", "(1)*1431655765^k");
        work(3, "0", "n!", "0");
        work(3, "n!", "0", "-1");
        work(3, "n", "n-n", "-1");
        work(7, "n", "n", "-1");
        work(-1, "n", "n", "-1");
    }

    private static void divisors() {
        work(4, "2*(n+k)^2*(n-1)", "6*(n+k)*(n-1)*(n-2)", "n*k-k+n^2-n");
        work(4, "0", "3*n*k+3", "n*k+1");
        work(4, "0", "0", "0");
        work(4, "n", "k", "1");
        work(4, "7", "14", "1");
        work(4, "1/n", "n", "-3");
        work(4, "n", "n!", "-3");
    }

    private static void resultants() {
        // det ((1, n), (1, -3))
        work(5, "k+n", "k-3", "-n-3");
        work(6, "k+n", "n-3", "-k-3");
        // res(k^2 - n, k - 2) = 4 - n, and n^2 - 3 n + 2 by its values at k's two
        work(5, "k^2-n", "k-2", "-n+4");
        work(5, "k-2", "k^2-n", "-n+4");
        work(5, "k-2", "k^3-n", "-n+8");
        work(5, "k^3-n", "k-2", "n-8");
        work(5, "n", "k^2+1", "n^2");
        work(5, "n", "n+1", "1");
        work(5, "0", "n", "0");
        work(5, "0", "0", "0");
        work(6, "k", "k+1", "1");
        work(5, "(n*k-1)*(k-n)", "(n*k-1)*(k+n)", "0");
        work(5, "n^13*k+1", "k^2+n", "-2");
        work(5, "1/n", "k", "-3");
        work(6, "n!", "k", "-3");
    }

    private static void changedRatios() {
        change(0, "n^2/k", 3, "(n^2+6*n+9)/(k)");
        change(0, "n", -1, "n-1");
        change(0, "n", P, "n");
        change(1, "1/(k*(k+1))", 1, "(1)/(k^2+3*k+2)");
        change(2, "(n+k)/(n-k)", 2, "(-k-2)/(k-2)");
        change(2, "1/(n-5)", 5, "-1");
        change(2, "(n-5)/(n+k)", 5, "0");
        change(3, "(n+k)/(n*k)", -1, "(-n+1)/(n)");
        change(3, "k^2+n", 3, "n+9");
        change(2, "k^2+n", 3, "k^2+3");
        change(4, "n^2*k/(n+1)", 0, "(n^2*k+2*n*k)/(n^2+2*n+1)");
        change(5, "1/k", 0, "(-1)/(k^2)");
        change(4, "k", 0, "0");
        change(6, "n^2/(k+3*n)", 0, "(-715827882*k^2)/(k-715827882*n)");
        change(6, "n^13", 0, "-2");
        change(7, "2*n/(2*k+4)", 0, "n");
        change(8, "2*n/(2*k+4)", 0, "k+2");
        change(8, "0", 0, "1");
        change(9, "(n+1)/k", 2, "(n^2+2*n+1)/(k^2)");
        change(9, "(n+1)/k", -2, "(k^2)/(n^2+2*n+1)");
        change(9, "n", 0, "1");
        change(9, "0", 0, "1");
        change(9, "0", 2, "0");
        change(9, "0", -1, "-1");
        change(9, "n", 13, "-1");
        change(9, "n", -13, "-1");
        change(9, "n^3", 9, "-2");
        change(9, "k", -12, "(1)/(k^12)");
        change(9, "n", 12, "n^12");
        change(10, "n", -5, "-5");
        change(11, "n", 0, "-3");
        change(12, "n", 0, "-1");
        change(-1, "n", 0, "-1");
        SumHouse h = Due.house("C(n,k)");
        h.recur(0, 1, 1);
        Due.due("10 of a record", h.change(10, 1, 7, 2), 1);
        Due.due("7", Due.text(h, 2), "7");
        Due.due("10 of an empty slot", h.change(10, 9, 8, 9), 1);
        Due.due("8", Due.text(h, 9), "8");
        Due.due("10 of slot 12", h.change(10, 12, 8, 9), -1);
        Due.due("0 of a record", h.change(0, 1, 0, 2), -3);
        Due.due("99 of an empty slot", h.change(99, 8, 0, 2), -3);
        Due.due("to slot 12", h.change(0, 0, 0, 12), -1);
    }

    private static void changedTerms() {
        change(0, "n*2^n*C(2*n,k)", 1, "(2*n+2)*2^n/(k)!/(-k+2*n+2)!*(2*n+2)!");
        change(1, "3^k*C(n,k)", 2, "(9)*3^k/(k+2)!/(-k+n-2)!*(n)!");
        change(1, "3^k*C(n,k)", -1, "(-715827882)*3^k/(k-1)!/(-k+n+1)!*(n)!");
        change(0, "k!*2^n", 1000, text1000());
        change(0, "n!", 50, "(1)*(n+50)!");
        change(0, "n!", 51, "-2");
        change(0, "(2*n)!", -26, "-2");
        change(0, "n!", P, "(1)*(n)!");
        change(9, "n*2^n/k!", 3, "(n^3)*8^n/(k)!^3");
        change(9, "n!", -12, "(1)/(n)!^12");
        change(9, "n!^2", 7, "-2");
        change(9, "n!", 0, "1");
        change(9, "n!", 13, "-1");
        change(11, "n/k*n!", 0, "(n)/(k)");
        for (int op = 2; op <= 8; op++) {
            change(op, "n!", 1, "-3");
        }
        change(10, "n!", 1, "1");
        change(12, "n!", 1, "-1");
    }

    /** k! 2^n with n + 1000: the ratio is 2^1000. */
    private static String text1000() {
        java.math.BigInteger two = java.math.BigInteger.TWO;
        long rest = two.modPow(java.math.BigInteger.valueOf(1000), java.math.BigInteger.valueOf(P)).longValue();
        return "(" + (rest <= 1073741823 ? rest : rest - P) + ")*2^n*(k)!";
    }

    private static void bounds() {
        SumHouse h = Due.house("n", "k");
        Due.due("slot 12", h.work(0, 12, 0, 0), -1);
        Due.due("slot -1", h.work(0, 0, -1, 0), -1);
        Due.due("an empty slot", h.work(0, 0, 5, 2), -3);
        Due.due("change of slot 12", h.change(0, 12, 0, 0), -1);
        Due.due("change of an empty slot", h.change(0, 5, 0, 0), -3);
    }
}
