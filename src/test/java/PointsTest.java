/**
 * The class finds divisors, resultants, recurrences and rows from their values at numbers n. Here the
 * answers at one such number (where it begins to look, or behind that) are others than in general.
 */
public final class PointsTest {
    private static final int[] DIVISORS = {1234567, 1234568, 1234570};
    private static final int[] EQUATIONS = {7654321, 7654322, 7654324};
    private static final int[] ROWS = {3456789, 3456790, 3456792};
    private static final int P = 2147483647;

    public static void main(String[] args) {
        for (int i = 0; i < 3; i++) {
            divisors(DIVISORS[i]);
            resultants(DIVISORS[i]);
            closed(EQUATIONS[i]);
            recurrences(EQUATIONS[i]);
            sums(ROWS[i]);
            products(ROWS[i]);
        }
        several();
        Due.end();
    }

    private static void work(int op, String a, String b, String want) {
        SumHouse h = Due.house(a, b);
        Due.due("work " + op + " of " + a + " and " + b, Due.came(h, h.work(op, 0, 1, 2), 2), Due.plain(want));
    }

    /** m is n less the number. */
    private static void divisors(int s) {
        Due.of("Promise 14", "4 the greatest common divisor, head 1");
        String m = "(n-" + s + ")";
        // at s both are k (k + 1), k^2, k^3 and so on
        work(4, "(k+1)*(k+" + m + ")", "(k+1)*(k-" + m + ")", "k+1");
        work(4, "(k+n)*(k+" + m + ")^2", "(k+n)*(k-" + m + ")*(k+2*" + m + ")", "k+n");
        work(4, "(k^2+n*k+3)*(k+" + m + ")^3", "(k^2+n*k+3)*(k-" + m + ")^2", "k^2+n*k+3");
        work(4, "(k+" + m + ")*(k+1)", "(k-" + m + ")*(k+2)", "1");
        // at s the greatest k goes, of one, of the other, of what they have in common
        work(4, m + "*k^2+k+1", m + "*k^3+k^2+k", m + "*k^2+k+1");
        work(4, "(" + m + "*k+1)*(k+5)", "(" + m + "*k+1)*(k+n)", m + "*k+1");
        work(4, "(" + m + "*k+n)^2*(n*k+1)", "(" + m + "*k+n)*(n*k+1)*(k+7)", "(" + m + "*k+n)*(n*k+1)");
        work(4, m + "*(k+n)", m + "^2*(k+n)*(k+1)", m + "*(k+n)");
        Due.of("Terms 1", "without a common divisor");
        Due.due("a quotient", Due.plain("(k+n)*(k+" + m + ")^2/((k+n)*(k-" + m + ")*(k+1))"),
                Due.plain("(k+" + m + ")^2/((k-" + m + ")*(k+1))"));
        Due.of("Terms 4", "D, the greatest common divisor, monic, of A and B shifted by i");
        SumHouse h = Due.house("(k+1+" + m + ")*(k+n*n)/((k+" + m + ")*(k+n+1))");
        Due.due("the form", h.form(0, 2, 1), 1);
        Due.due("C", Due.text(h, 1), Due.plain("k+" + m));
    }

    private static void resultants(int s) {
        Due.of("Promise 14", "5 the resultant along k");
        String m = "(n-" + s + ")";
        work(5, "k+" + m, "k-" + m, "0-2*" + m);
        work(5, m + "*k+1", "k+n", "n*" + m + "-1");
        // det ((m, 1, 1), (m, 2, 0), (0, m, 2))
        work(5, m + "*k^2+k+1", m + "*k+2", "4*" + m + "-2*" + m + "+" + m + "^2");
        work(5, "k^2-" + m, "k^3-" + m, "0-" + m + "^3+" + m + "^2");
    }

    private static void closed(int s) {
        Due.of("Terms 4", "THE EQUATION of A, B and a polynomial in k, Z");
        String m = "(n-" + s + ")";
        closes("2^k*(" + m + "*k+1)");
        closes("k^3*" + m + "+k^2+" + m);
        closes("(" + m + "*k^2+n*k+1)*3^k");
        closes("1/((k+" + m + ")*(k+" + m + "+1))");
        closes("(" + m + "*k+n+k^2)/n");
    }

    private static void closes(String text) {
        SumHouse h = Due.house(text);
        Due.due("closed form of " + text, h.close(0, 1), 1);
        for (int k = 1; k < 9; k++) {
            long here = h.value(0, 5, k);
            long left = (long) h.value(1, 5, k + 1) * h.value(0, 5, k + 1) % P + P - (long) h.value(1, 5, k) * here % P;
            Due.due(text + " at " + k, left % P, here);
        }
    }

    private static void recurrences(int s) {
        Due.of("Terms 5", "The first j with such a_i ends it");
        String m = "(n-" + s + ")";
        // at s, s_0 and s_1 are the same; at s + 1 and s - 1 nearly so
        orders("(1+" + m + "*(" + m + "-1)*k)*k!^8", 2);
        orders("(1+" + m + "*(n*n+1)*k)*k!^8", 2);
        orders("(n+" + m + "*k)*k!", 1);
        orders("(1+" + m + "*(" + m + "-1)*k+n^3*k^2)*k!^3", 3);
        orders("(" + m + "*k+1)*C(n,k)", 1);
        orders("2^k/(k+" + m + ")", 1);
    }

    private static void orders(String text, int order) {
        SumHouse h = Due.house(text);
        Due.due("order for " + text, h.recur(0, 3, 1), order);
        Due.due("one less for " + text, h.recur(0, order - 1, 2), -1);
        Due.due("it is right for " + text, h.check(1, 0), 1);
        Due.due("it holds for " + text, h.holds(1, 0, 12, 1, 6), 1);
    }

    private static void sums(int s) {
        Due.of("Terms 6", "the least j, 1 .. 6, for which w(n) .. w(n + j) are dependent");
        SumHouse h = new SumHouse();
        // at s both are 2^n
        RowsTest.row(h, 0, new int[][] {{-2}, {1}}, 1);
        RowsTest.row(h, 1, new int[][] {{-2 + s, -1}, {1}}, 1);
        joined(h, 0, 0, 1, 2);
        joined(h, 1, 1, 0, 2);
        // a_1 is 0 at s, and at s + 1
        RowsTest.row(h, 2, new int[][] {{1}, {-s, 1}}, 1);
        joined(h, 0, 2, 0, 2);
        joined(h, 0, 2, 1, 2);
        RowsTest.row(h, 3, new int[][] {{1}, {1, 1}, {-s, 1}}, 1, 1);
        joined(h, 0, 3, 0, 3);
        joined(h, 1, 2, 3, 3);
    }

    private static void products(int s) {
        Due.of("Terms 6", "or times their products");
        SumHouse h = Due.house("n-" + s, "(n-" + s + ")*(n-" + (s + 1) + ")");
        RowsTest.row(h, 2, new int[][] {{-1}, {-1}, {1}}, 0, 1);
        RowsTest.row(h, 3, new int[][] {{-1}, {-1 + s, -1}, {1}}, 0, 1);
        joined(h, 2, 2, 3, 4);
        joined(h, 2, 3, 2, 4);
        RowsTest.row(h, 4, new int[][] {{1}, {-s, 1}}, 1);
        joined(h, 2, 2, 4, 2);
        joined(h, 2, 4, 4, 1);
        joined(h, 5, 2, 0, 2);
        joined(h, 5, 3, 1, 2);
        joined(h, 5, 4, 0, 1);
    }

    private static void joined(SumHouse h, int op, int a, int b, int order) {
        Due.due("join " + op + " of " + a + " and " + b, h.join(op, a, b, 6), order);
        for (int n = 0; n < 40; n++) {
            long sum = 0;
            for (int m = 0; m <= order; m++) {
                h.part(6, m, 7);
                sum = (sum + (long) h.value(7, n, 0) * h.at(6, n + m)) % P;
            }
            Due.due("join " + op + " of " + a + " and " + b + " at " + n, sum, 0);
        }
    }

    /** Where it begins to look, and all behind that for a while, the answers are others. */
    private static void several() {
        Due.of("Promise 14", "4 the greatest common divisor, head 1");
        StringBuilder all = new StringBuilder("1");
        for (int i = 0; i < 6; i++) {
            all.append("*(n-").append(1234567 + i).append(')');
        }
        work(4, "(k+n)*(k+" + all + ")", "(k+n)*(k-" + all + ")", "k+n");
        work(4, "(k^2+n^5+1)*(k+" + all + ")*k", "(k^2+n^5+1)*(k-" + all + ")", "k^2+n^5+1");
        work(4, "(" + all + "*k+1)*(k+1)", "(" + all + "*k+1)*(k+2)", all + "*k+1");
        Due.of("Terms 5", "The first j with such a_i ends it");
        StringBuilder far = new StringBuilder("1");
        for (int i = 0; i < 6; i++) {
            far.append("*(n-").append(7654321 + i).append(')');
        }
        orders("(1+" + far + "*k)*k!^8", 2);
    }
}
