/** Promises 33 to 35: roots of polynomials, closed rows. */
public final class RootsTest {
    private static final int P = 2147483647;

    public static void main(String[] args) {
        roots();
        noRoots();
        solved();
        notSolved();
        Due.end();
    }

    private static void roots(String text, long... want) {
        SumHouse h = Due.house(text);
        Due.due("roots of " + text, h.roots(0), want.length);
        for (int i = 0; i < want.length; i++) {
            Due.due("root " + i + " of " + text, h.root(i), want[i]);
        }
        Due.due("no more", h.root(want.length), -1);
        Due.due("none ahead", h.root(-1), -1);
        Due.due("so many", h.count(3), want.length);
    }

    private static void roots() {
        roots("7");
        roots("n", 0);
        roots("n-5", 5);
        roots("n+1", P - 1);
        roots("(n-1)^3*(n-2)*n^2", 0, 0, 1, 1, 1, 2);
        roots("2*n-1", (P + 1L) / 2);
        // -1 is no square by P, 2 is: 2^16 times itself is 2^32 = 2
        roots("n^2+1");
        roots("n^2-2", 65536, P - 65536);
        roots("(n^2+1)^2*(n-9)", 9);
        roots("n^24", new long[24]);
        roots("(n-1)*(n-2)*(n-3)*(n-4)*(n-5)*(n-6)*(n-7)*(n-8)*(n-9)*(n-10)*(n-11)*(n-12)",
                1, 2, 3, 4, 5, 6, 7, 8, 9, 10, 11, 12);
        roots("(n+1000000)*(n-1000000)*(n^2-5)*5", 1000000, P - 1000000);
        // 5 is no square by P, so -5 is one
        Due.due("n^2 + 5", Due.house("n^2+5").roots(0), 2);
        roots("(n-7)^13*(n-6)^11", 6, 6, 6, 6, 6, 6, 6, 6, 6, 6, 6, 7, 7, 7, 7, 7, 7, 7, 7, 7, 7, 7, 7, 7);
    }

    private static void noRoots() {
        SumHouse h = Due.house("(n-3)*(n-4)", "0", "n*k", "1/n", "n!", "k");
        Due.due("two", h.roots(0), 2);
        for (int i = 1; i < 6; i++) {
            Due.due("no polynomial in n alone", h.roots(i), -3);
        }
        Due.due("an empty slot", h.roots(9), -3);
        Due.due("slot 12", h.roots(12), -1);
        Due.due("the latest that was not below 0", h.root(1), 4);
        Due.due("two still", h.count(3), 2);
    }

    private static String solve(int[][] steps) {
        SumHouse h = new SumHouse();
        RowsTest.row(h, 0, steps);
        int byRow = h.solve(0, 1);
        int byRecord = h.solve(10, 2);
        Due.due("the record's", byRecord, byRow);
        return byRow < 0 ? String.valueOf(byRow) : Due.text(h, 1);
    }

    private static void solved() {
        Due.due("2^n", solve(new int[][] {{-2}, {1}}), "(1)*2^n");
        Due.due("1", solve(new int[][] {{-1}, {1}}), "1");
        Due.due("n!", solve(new int[][] {{-1, -1}, {1}}), "(1)*(n)!");
        Due.due("1 / n!", solve(new int[][] {{-1}, {1, 1}}), "(1)/(n)!");
        // -(2 n + 1) 2 and n + 1 by n + 3: X 4 is not closed for a half
        Due.due("(n + 2)! / (n - 3)! and 3^n", solve(new int[][] {{-9, -3}, {-2, 1}}), "(1)*3^n/(n-3)!*(n+2)!");
        Due.due("-1 squared", solve(new int[][] {{4, 4, 1}, {0, 0, 1}}), "(1)*2147483646^n/(n-1)!^2*(n+1)!^2");
        Due.due("c = 51", solve(new int[][] {{-51, -1}, {1}}), "(1)*(n+50)!");
        Due.due("c = -49", solve(new int[][] {{49, -1}, {1}}), "(1)*(n-50)!");
        SumHouse h = new SumHouse();
        RowsTest.row(h, 0, new int[][] {{-9, -3}, {-2, 1}});
        h.solve(0, 1);
        h.quotient(1, 0, 2);
        Due.due("its quotient is -a_0 / a_1", Due.text(h, 2), "(3*n+9)/(n-2)");
        // a poked record with a common divisor and another head of a_1
        h.poke(10, 0, 0, 0, -6);
        h.poke(10, 0, 1, 0, -6);
        h.poke(10, 1, 0, 0, 2);
        h.poke(10, 1, 1, 0, 2);
        Due.due("6 (n + 1) by 2 (n + 1)", h.solve(10, 3), 2);
        Due.due("3^n", Due.text(h, 3), "(1)*3^n");
    }

    private static void notSolved() {
        Due.due("a half", solve(new int[][] {{1, 2}, {1}}), "-1");
        Due.due("c = 52", solve(new int[][] {{-52, -1}, {1}}), "-1");
        Due.due("c = -50", solve(new int[][] {{50, -1}, {1}}), "-1");
        Due.due("n^2 + 1", solve(new int[][] {{1, 0, 1}, {1}}), "-1");
        Due.due("order 2", solve(new int[][] {{1}, {1}, {1}}), "-1");
        Due.due("a_0 is 0", solve(new int[][] {{0}, {1}}), "-1");
        Due.due("12 factorials", solve(new int[][] {{0, 0, 0, 0, 0, 0, 0, 0, 0, 0, 0, 0, 1}, {1}}),
                "(1)*2147483646^n*(n-1)!^12");
        Due.due("13", solve(new int[][] {{0, 0, 0, 0, 0, 0, 0, 0, 0, 0, 0, 0, 0, 1}, {1}}), "-1");
        SumHouse h = Due.house("C(n,k)", "(-1)^k*C(n,k)");
        h.recur(0, 1, 2);
        h.recur(1, 0, 3);
        Due.due("order 0", h.solve(3, 4), -1);
        Due.due("a term", h.solve(0, 4), -3);
        Due.due("an empty slot", h.solve(9, 4), -3);
        Due.due("to slot 12", h.solve(2, 12), -1);
        Due.due("2^n", h.solve(2, 4), 2);
        h.poke(2, 1, 0, 0, 0);
        Due.due("a_1 is 0", h.solve(2, 5), -1);
        Due.due("nothing came", h.kind(5), 0);
    }
}
