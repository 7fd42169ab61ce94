import java.util.Arrays;

/** "Terms", section 7, and promises 33 to 35: roots and closed rows, at the bounds that they name. */
public final class RootsEdgesTest {
    private static final String WHERE = "Terms 7";
    private static final int P = 2147483647;

    public static void main(String[] args) {
        rising();
        manyRoots();
        kinds();
        latest();
        closedByFactors();
        bounds();
        sizes();
        heads();
        notClosed();
        orders();
        Due.end();
    }

    private static void roots(String text, long... want) {
        SumHouse h = Due.house(text);
        Due.due("roots of " + text, h.roots(0), want.length);
        for (int i = 0; i < want.length; i++) {
            Due.due("root " + i + " of " + text, h.root(i), want[i]);
        }
        Due.due("no more of " + text, h.root(want.length), -1);
        Due.due("counted", h.count(3), want.length);
    }

    private static void rising() {
        Due.of(WHERE, "all numbers x where it is 0, rising, each as often as (n - x) divides it");
        roots("n", 0);
        roots("n+1", P - 1);
        roots("7*n-7", 1);
        roots("2*n-1", 1073741824);
        roots("(n+1)*n*(n-1)", 0, 1, P - 1);
        roots("(n-1073741824)*(n-1073741823)", 1073741823, 1073741824);
        roots("(n-5)^3*(n-2)^2", 2, 2, 5, 5, 5);
        roots("n^3-n^2", 0, 0, 1);
        roots("n^2+1");
        roots("(n^2+1)*(n-3)", 3);
        roots("(n^2+1)^2");
        roots("(n^2-2)^2", 65536, 65536, P - 65536, P - 65536);
        // n^31 - 1 has all powers of 2; n^2 + n + 1 has roots, 3 dividing P - 1
        SumHouse h = Due.house("n^2+n+1");
        Due.due("third roots of 1", h.roots(0), 2);
        long x = h.root(0);
        Due.due("cubed", x * x % P * x % P, 1);
        Due.due("they rise", h.root(0) < h.root(1) ? 1 : 0, 1);
        Due.due("their product", (long) h.root(0) * h.root(1) % P, 1);
        roots("5");
        roots("2147483646");
    }

    private static void manyRoots() {
        Due.of(WHERE, "each as often as (n - x) divides it");
        roots("n^24", new long[24]);
        long[] ones = new long[24];
        Arrays.fill(ones, 1);
        roots("(n-1)^24", ones);
        long[] two = new long[24];
        Arrays.fill(two, 0, 12, 3);
        Arrays.fill(two, 12, 24, P - 3);
        roots("(n-3)^12*(n+3)^12", two);
        // 24 roots, each once
        StringBuilder text = new StringBuilder("1");
        long[] all = new long[24];
        for (int i = 0; i < 24; i++) {
            text.append("*(n-").append(i * i).append(')');
            all[i] = (long) i * i;
        }
        roots(text.toString(), all);
        // those of n^24 - 1: 18 divides P - 1 as 24 does not, which leaves those of n^6 - 1
        SumHouse h = Due.house("n^24-1");
        Due.due("the 24th roots of 1", h.roots(0), 6);
        for (int i = 0; i < 6; i++) {
            long x = h.root(i);
            Due.due("to the power 6", x * x % P * x % P * (x * x % P * x % P) % P, 1);
        }
        Due.due("1 is the first", h.root(0), 1);
        Due.due("-1 is the last", h.root(5), P - 1);
        SumHouse g = Due.house("n^24-n^6");
        Due.due("0 six times, and those of n^18 - 1", g.roots(0), 24);
        Due.due("the 6th", g.root(5), 0);
        Due.due("the 7th", g.root(6), 1);
    }

    private static void kinds() {
        Due.of("Promise 33", "The roots of a polynomial in n alone that is not 0 (KIND for others): how many");
        SumHouse h = Due.house("n-1", "0", "k", "n+k", "1/n", "(n-1)/2", "7", "n!", "2^n", "k^0*n", "C(n,k)");
        int[] want = {1, -3, -3, -3, -3, 1, 0, -3, -3, 1, -3};
        for (int slot = 0; slot < want.length; slot++) {
            Due.due("slot " + slot, h.roots(slot), want[slot]);
        }
        Due.due("an empty slot", h.roots(11), -3);
        h.recur(10, 1, 11);
        Due.due("a record", h.roots(11), -3);
        h.row(11, 11);
        Due.due("a row", h.roots(11), -3);
        Due.due("slot 12", h.roots(12), -1);
        Due.due("slot -1", h.roots(-1), -1);
    }

    private static void latest() {
        Due.of("Promise 34", "Root i of the latest roots() that was not below 0; NONE when there is none");
        SumHouse h = Due.house("(n-3)*(n-4)", "n-9", "5", "k");
        Due.due("before", h.root(0), -1);
        Due.due("KIND", h.roots(3), -3);
        Due.due("still before", h.root(0), -1);
        h.roots(0);
        Due.due("root 0", h.root(0), 3);
        Due.due("root 1", h.root(1), 4);
        for (int i : new int[] {2, -1, 24, Integer.MAX_VALUE, Integer.MIN_VALUE}) {
            Due.due("root " + i, h.root(i), -1);
        }
        Due.due("KIND", h.roots(3), -3);
        Due.due("NONE", h.roots(12), -1);
        Due.due("root 1 stays", h.root(1), 4);
        h.drop(0);
        Due.due("root 1 stays without its slot", h.root(1), 4);
        h.roots(1);
        Due.due("another's", h.root(0), 9);
        Due.due("which has no second", h.root(1), -1);
        Due.due("none", h.roots(2), 0);
        Due.due("none at all", h.root(0), -1);
    }

    /** The closed form of a record and of its row, by a_0 and a_1 as products of n + c and a number. */
    private static void solve(int number, int[] above, int[] below, String want) {
        SumHouse h = new SumHouse();
        int[] a = product(-number, above);
        int[] b = product(1, below);
        int needs = RowsTest.row(h, 0, new int[][] {a, b});
        int byRecord = h.solve(10, 1);
        Due.due("closed record for " + want, Due.came(h, byRecord, 1), want.equals("-1") ? want : Due.plain(want));
        if (needs > 0) {
            int byRow = h.solve(0, 2);
            Due.due("closed row for " + want, Due.came(h, byRow, 2), want.equals("-1") ? want : Due.plain(want));
        }
        if (byRecord > 0) {
            Due.due("its kind", h.kind(1), byRecord);
            // its quotient along n is -a_0 / a_1
            Due.due("quotient", h.quotient(1, 0, 3), 1);
            h.part(10, 0, 4);
            h.part(10, 1, 5);
            h.work(3, 4, 5, 4);
            h.work(0, 3, 4, 5);
            Due.due("quotient and a_0 / a_1 for " + want, Due.text(h, 5), "0");
        }
    }

    /** number (n + c) (n + d) .., as numbers from n^0 on. */
    private static int[] product(int number, int[] roots) {
        long[] made = {(number + (long) P) % P};
        for (int c : roots) {
            long[] next = new long[made.length + 1];
            for (int i = 0; i < made.length; i++) {
                next[i + 1] = (next[i + 1] + made[i]) % P;
                next[i] = (next[i] + (c + (long) P) % P * made[i]) % P;
            }
            made = next;
        }
        int[] small = new int[made.length];
        for (int i = 0; i < made.length; i++) {
            small[i] = (int) made[i];
        }
        return small;
    }

    private static int[] times(int many, int c) {
        int[] roots = new int[many];
        Arrays.fill(roots, c);
        return roots;
    }

    private static void closedByFactors() {
        Due.of(WHERE, "the term - of the head of a_0 as X, (n + c - 1)! to the power 1 for each n + c of a_0, -1 for each of a_1");
        solve(2, new int[] {}, new int[] {}, "2^n");
        solve(1, new int[] {}, new int[] {}, "1");
        solve(-1, new int[] {}, new int[] {}, "(-1)^n");
        solve(1, new int[] {1}, new int[] {}, "n!");
        solve(1, new int[] {}, new int[] {1}, "1/n!");
        solve(3, new int[] {3}, new int[] {-2}, "3^n*(n+2)!/(n-3)!");
        solve(1, new int[] {0}, new int[] {}, "(n-1)!");
        solve(-5, new int[] {2, 2, 7}, new int[] {4, 4}, "(-5)^n*(n+1)!^2*(n+6)!/(n+3)!^2");
        Due.of(WHERE, "(those alike counted together; ratio 1");
        solve(7, new int[] {5, 5, 5}, new int[] {}, "7^n*(n+4)!^3");
    }

    private static void bounds() {
        Due.of(WHERE, "products of n + c with c as small ones -49 .. 51");
        solve(1, new int[] {51}, new int[] {}, "(n+50)!");
        solve(1, new int[] {52}, new int[] {}, "-1");
        solve(1, new int[] {-49}, new int[] {}, "(n-50)!");
        solve(1, new int[] {-50}, new int[] {}, "-1");
        solve(1, new int[] {}, new int[] {51}, "1/(n+50)!");
        solve(1, new int[] {}, new int[] {52}, "-1");
        solve(1, new int[] {}, new int[] {-49}, "1/(n-50)!");
        solve(1, new int[] {}, new int[] {-50}, "-1");
        solve(1, new int[] {51, 1}, new int[] {-49}, "(n+50)!*n!/(n-50)!");
        solve(1, new int[] {52, 1}, new int[] {-49}, "-1");
        // 52 that goes in a row, but not in the record
        SumHouse h = new SumHouse();
        RowsTest.row(h, 0, new int[][] {product(-1, new int[] {52, 1}), product(1, new int[] {52})});
        Due.due("n + 52 is gone from the row", Due.came(h, h.solve(0, 1), 1), "(1)*(n)!");
        Due.due("and is there in the record", h.solve(10, 1), -1);
    }

    private static void sizes() {
        Due.of(WHERE, "if that is a term as told in 2, or a ratio");
        solve(1, times(12, 1), new int[] {}, "n!^12");
        solve(1, times(13, 1), new int[] {}, "-1");
        solve(1, new int[] {}, times(12, 1), "1/n!^12");
        solve(1, new int[] {}, times(13, 1), "-1");
        solve(1, times(6, 1), times(6, 2), "n!^6/(n+1)!^6");
        solve(1, times(7, 1), times(6, 2), "-1");
        int[] twelve = new int[12];
        int[] thirteen = new int[13];
        for (int i = 0; i < 13; i++) {
            thirteen[i] = 10 - 3 * i;
            twelve[Math.min(i, 11)] = 10 - 3 * Math.min(i, 11);
        }
        StringBuilder want = new StringBuilder("1");
        for (int c : twelve) {
            want.append("*(n+").append(c - 1 < 0 ? P + c - 1 : c - 1).append(")!");
        }
        solve(1, twelve, new int[] {}, want.toString());
        solve(1, thirteen, new int[] {}, "-1");
        // a record that was poked: 24 by 12, and 24 by 24
        SumHouse h = new SumHouse();
        RowsTest.row(h, 0, new int[][] {product(-1, times(24, 1)), product(1, times(12, 1))});
        Due.due("24 less 12", Due.came(h, h.solve(10, 1), 1), "(1)*(n)!^12");
        RowsTest.row(h, 0, new int[][] {product(-1, times(24, 1)), product(1, times(11, 1))});
        Due.due("24 less 11", h.solve(10, 1), -1);
        RowsTest.row(h, 0, new int[][] {product(-3, times(24, 1)), product(1, times(24, 1))});
        Due.due("24 less 24", Due.came(h, h.solve(10, 1), 1), "(1)*3^n");
        RowsTest.row(h, 0, new int[][] {product(-1, times(24, 1)), product(1, times(24, 1))});
        Due.due("24 less 24: a ratio", h.solve(10, 1), 1);
        Due.due("1", Due.text(h, 1), "1");
        int[] far = new int[24];
        for (int i = 0; i < 24; i++) {
            far[i] = i - 10;
        }
        RowsTest.row(h, 0, new int[][] {product(-1, far), product(1, new int[] {})});
        Due.due("24 factors that are others", h.solve(10, 1), -1);
        RowsTest.row(h, 0, new int[][] {product(-1, far), product(1, far)});
        Due.due("24 others less themselves", Due.came(h, h.solve(10, 1), 1), "1");
    }

    private static void heads() {
        Due.of(WHERE, "of a record that was poked the head of a_1 may be another one: X is by that");
        SumHouse h = new SumHouse();
        RowsTest.row(h, 0, new int[][] {{-12, -6}, {3, 3}});
        Due.due("6 (n + 2) by 3 (n + 1)", Due.came(h, h.solve(10, 1), 1), Due.plain("2^n*(n+1)!/n!"));
        RowsTest.row(h, 0, new int[][] {{1}, {2}});
        Due.due("-1 by 2", Due.came(h, h.solve(10, 1), 1), Due.plain("(0-1/2)^n"));
        RowsTest.row(h, 0, new int[][] {{5}, {P - 5}});
        Due.due("5 by 5", Due.came(h, h.solve(10, 1), 1), "1");
        RowsTest.row(h, 0, new int[][] {{0, 5}, {5}});
        Due.due("-n", Due.came(h, h.solve(10, 1), 1), Due.plain("(0-1)^n*(n-1)!"));
    }

    private static void notClosed() {
        Due.of("Promise 35", "NONE when its order is not 1, or it is not closed");
        SumHouse h = new SumHouse();
        int[][][] steps = {{{1, 2}, {1}}, {{1}, {1, 2}}, {{1, 0, 1}, {1}}, {{2, 3, 0, 1}, {1}}, {{0}, {1}}, {{1}, {0}},
            {{0}, {0}}, {{1000, 1}, {1}}, {{1, 1, 1}, {1}}};
        for (int i = 0; i < steps.length; i++) {
            h.drop(1);
            RowsTest.row(h, 0, steps[i]);
            Due.due("record " + i, h.solve(10, 1), -1);
            Due.due("nothing came", h.kind(1), 0);
        }
        RowsTest.row(h, 0, new int[][] {{0}, {1}});
        Due.due("a row whose a_0 is 0", h.solve(0, 1), -1);
    }

    private static void orders() {
        Due.of("Promise 35", "The term (or ratio) by which the recurrence of a row or record is closed: its kind");
        SumHouse h = Due.house("(-1)^k*C(n,k)", "C(n,k)", "C(n,k)^3", "C(n,k)^2", "C(n,3*k)");
        int[] want = {-1, 2, -1, -1, -1};
        for (int i = 0; i < 5; i++) {
            h.recur(i, 3, 6);
            Due.due("record of slot " + i, h.solve(6, 7), want[i]);
            if (h.row(6, 8) > 0) {
                Due.due("row of slot " + i, h.solve(8, 7), want[i]);
            }
        }
        Due.due("2^n", Due.text(h, 7), "(1)*2^n");
        RowsTest.row(h, 8, new int[][] {{-2}, {1}});
        Due.due("a row without first numbers", h.solve(8, 7), 2);
        RowsTest.row(h, 8, new int[][] {{-1}, {1}});
        Due.due("a ratio", h.solve(8, 7), 1);
        RowsTest.row(h, 8, new int[][] {{-1}, {0}, {1}}, 1, 1);
        Due.due("order 2", h.solve(8, 7), -1);
        Due.due("a term", h.solve(1, 7), -3);
        Due.due("an empty slot", h.solve(9, 7), -3);
        Due.due("slot 12", h.solve(12, 7), -1);
        Due.due("to slot 12", h.solve(8, 12), -1);
    }
}
