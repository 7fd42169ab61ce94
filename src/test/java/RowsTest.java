/** Promises 26 to 32: rows by recurrences, joined, guessed. */
public final class RowsTest {
    private static final int P = 2147483647;

    public static void main(String[] args) {
        rows();
        needs();
        firsts();
        members();
        sumsOfRows();
        productsOfRows();
        summed();
        moved();
        scaled();
        joinBounds();
        feeding();
        guesses();
        noGuesses();
        Due.end();
    }

    /** A row in a slot: a_0, a_1 .. as numbers from n^0 on, made from a record; then its first numbers. */
    static int row(SumHouse h, int slot, int[][] steps, int... firsts) {
        int order = steps.length - 1;
        // sums of C(n, k), of its square with C(n + k, k), of C(2 n, k): records of the orders 1, 2
        Due.read(h, order == 1 ? "C(n,k)" : order == 2 ? "C(n,k)*C(n+k,k)" : "C(n,3*k)", 11);
        Due.due("a record of order " + order, h.recur(11, order, 10), order);
        for (int m = 0; m <= order; m++) {
            for (int i = 0; i <= 24; i++) {
                h.poke(10, m, i, 0, i < steps[m].length ? steps[m][i] : 0);
            }
        }
        int needs = h.row(10, slot);
        for (int v : firsts) {
            h.first(slot, v);
        }
        return needs;
    }

    private static String step(SumHouse h, int slot, int m) {
        h.part(slot, m, 9);
        return Due.text(h, 9);
    }

    private static void steps(String what, SumHouse h, int slot, String... want) {
        Due.due(what + ": order", h.told(slot, 3), want.length - 1);
        for (int m = 0; m < want.length; m++) {
            Due.due(what + ": a_" + m, step(h, slot, m), want[m]);
        }
    }

    private static void members(String what, SumHouse h, int slot, long... want) {
        for (int i = 0; i < want.length; i++) {
            Due.due(what + " at " + i, h.at(slot, i), want[i]);
        }
    }

    private static void rows() {
        SumHouse h = Due.house("C(n,k)", "(-1)^k*C(n,k)");
        h.recur(0, 1, 2);
        Due.due("the row of 2^n", h.row(2, 3), 1);
        Due.due("its kind", h.kind(3), 4);
        steps("2^n", h, 3, "-2", "1");
        h.recur(1, 0, 4);
        Due.due("of order 0", h.row(4, 5), -1);
        // 2 (n + 1) (n + 2) and 4 (n + 1) lose n + 1 and the head
        Due.due("without a common divisor", row(h, 5, new int[][] {{4, 6, 2}, {4, 4}}, 1), 1);
        steps("made", h, 5, "1073741824*n+1".replace("1073741824", "-1073741823"), "1");
        h.poke(2, 1, 0, 0, 0);
        Due.due("a_r is 0", h.row(2, 6), -1);
        Due.due("nothing came", h.kind(6), 0);
        Due.due("of a term", h.row(0, 6), -3);
        Due.due("of a row", h.row(3, 6), -3);
        Due.due("to slot 12", h.row(2, 12), -1);
        Due.due("slot -1", h.row(-1, 0), -1);
    }

    private static void needs() {
        SumHouse h = new SumHouse();
        Due.due("a root -1", row(h, 0, new int[][] {{1}, {1, 1}}), 1);
        Due.due("a root 0", row(h, 0, new int[][] {{1}, {0, 1}}), 2);
        Due.due("a root 3", row(h, 0, new int[][] {{1}, {-3, 1}}), 5);
        Due.due("roots 3 and 5", row(h, 0, new int[][] {{1}, {15, -8, 1}}), 7);
        Due.due("told so", h.told(0, 4), 7);
        Due.due("a root 58", row(h, 0, new int[][] {{1}, {-58, 1}}), 60);
        Due.due("a root 59", row(h, 1, new int[][] {{1}, {-59, 1}}), -2);
        Due.due("a root 300", row(h, 1, new int[][] {{1}, {-300, 1}}), -2);
        Due.due("a root 301", row(h, 1, new int[][] {{1}, {-301, 1}}), 1);
        Due.due("a root that goes", row(h, 1, new int[][] {{-59, 1}, {-59, 1}}), 1);
        Due.due("order 2", row(h, 1, new int[][] {{1}, {1}, {1}}), 2);
        Due.due("order 2 with a root 0", row(h, 1, new int[][] {{1}, {1}, {0, 1}}), 3);
    }

    private static void firsts() {
        SumHouse h = Due.house("n");
        row(h, 1, new int[][] {{-1}, {-1}, {1}});
        Due.due("one", h.first(1, 5), 1);
        Due.due("not all yet", h.at(1, 0), -1);
        Due.due("two", h.first(1, -1), 2);
        Due.due("it has all", h.first(1, 7), -1);
        members("-1 at 1", h, 1, 5, P - 1, 4, 3, 7);
        Due.due("a ratio", h.first(0, 1), -3);
        Due.due("an empty slot", h.first(7, 1), -3);
        Due.due("slot 12", h.first(12, 1), -1);
    }

    private static void members() {
        SumHouse h = Due.house("n");
        row(h, 0, new int[][] {{-1}, {-1}, {1}}, 0, 1);
        members("Fibonacci", h, 0, 0, 1, 1, 2, 3, 5, 8, 13, 21, 34, 55);
        Due.due("F(44)", h.at(0, 44), 701408733);
        Due.due("F(47) by P", h.at(0, 47), 2971215073L - P);
        Due.due("-1", h.at(0, -1), -1);
        Due.due("301", h.at(0, 301), -1);
        Due.due("300 is there", h.at(0, 300) >= 0 ? 1 : 0, 1);
        // n u(n + 1) = (n + 1) u(n), u(0) and u(1) as they are told
        row(h, 1, new int[][] {{-1, -1}, {0, 1}}, 9, 5);
        members("5 n", h, 1, 9, 5, 10, 15, 20);
        Due.due("1500", h.at(1, 300), 1500);
        Due.due("an empty slot", h.at(7, 0), -3);
        Due.due("no row", h.at(11, 0), -3);
        Due.due("slot -1", h.at(-1, 0), -1);
    }

    private static void sumsOfRows() {
        SumHouse h = new SumHouse();
        row(h, 0, new int[][] {{-2}, {1}}, 1);
        row(h, 1, new int[][] {{-3}, {1}}, 1);
        Due.due("2^n + 3^n", h.join(0, 0, 1, 2), 2);
        steps("2^n + 3^n", h, 2, "6", "-5", "1");
        Due.due("needs", h.told(2, 4), 3);
        members("2^n + 3^n", h, 2, 2, 5, 13, 35, 97);
        Due.due("2^n - 3^n", h.join(1, 0, 1, 2), 2);
        members("2^n - 3^n", h, 2, 0, P - 1, P - 5, P - 19);
        Due.due("2^n + 2^n", h.join(0, 0, 0, 3), 1);
        steps("2^n + 2^n", h, 3, "-2", "1");
        members("2^n + 2^n", h, 3, 2, 4, 8);
        // two different letters, so that the order stays 1 though all is 0
        Due.due("2^n - 2^n", h.join(1, 0, 0, 3), 1);
        members("2^n - 2^n", h, 3, 0, 0, 0);
        // n! + 2^n: (1 - n) (w(n + 2)) + ..
        row(h, 4, new int[][] {{-1, -1}, {1}}, 1);
        Due.due("n! + 2^n", h.join(0, 4, 0, 5), 2);
        members("n! + 2^n", h, 5, 2, 3, 6, 14, 40, 152);
        Due.due("5! + 2^5 found again at 9", h.at(5, 9), 362880 + 512);
    }

    private static void productsOfRows() {
        SumHouse h = new SumHouse();
        row(h, 0, new int[][] {{-1}, {-1}, {1}}, 0, 1);
        // u(n) v(n), u(n) v(n + 1) + u(n + 1) v(n) and u(n + 1) v(n + 1) are enough
        Due.due("F(n)^2", h.join(2, 0, 0, 1), 3);
        steps("F(n)^2", h, 1, "1", "-2", "-2", "1");
        members("F(n)^2", h, 1, 0, 1, 1, 4, 9, 25, 64, 169);
        row(h, 2, new int[][] {{-2}, {1}}, 1);
        Due.due("2^n F(n)", h.join(2, 0, 2, 3), 2);
        steps("2^n F(n)", h, 3, "-4", "-2", "1");
        members("2^n F(n)", h, 3, 0, 2, 4, 16, 48);
        row(h, 4, new int[][] {{-1, -1}, {1}}, 1);
        Due.due("n! n!", h.join(2, 4, 4, 5), 1);
        steps("n! n!", h, 5, "-n^2-2*n-1", "1");
        Due.due("needs: 1 and 1 together", h.told(5, 4), 2);
        members("n! n!", h, 5, 1, 1, 4, 36, 576);
    }

    private static void summed() {
        SumHouse h = new SumHouse();
        row(h, 0, new int[][] {{-2}, {1}}, 1);
        Due.due("1 + 2 + 4 ..", h.join(3, 0, -7, 1), 2);
        steps("1 + 2 + 4 ..", h, 1, "2", "-3", "1");
        Due.due("needs: 1 and 2 together", h.told(1, 4), 3);
        members("2^(n+1) - 1", h, 1, 1, 3, 7, 15, 31);
        // (n + 1) u(n) = u(n + 1): the recurrence with n + 1 for n
        row(h, 2, new int[][] {{-1, -1}, {1}}, 1);
        Due.due("0! + 1! + ..", h.join(3, 2, 0, 2), 2);
        steps("0! + 1! + ..", h, 2, "n+2", "-n-3", "1");
        members("0! + 1! + ..", h, 2, 1, 2, 4, 10, 34, 154);
    }

    private static void moved() {
        SumHouse h = new SumHouse();
        row(h, 0, new int[][] {{-1, -1}, {1}}, 1);
        Due.due("(n + 1)!", h.join(4, 0, 99, 1), 1);
        steps("(n + 1)!", h, 1, "-n-2", "1");
        members("(n + 1)!", h, 1, 1, 2, 6, 24);
        // a root 1: needs 3; moved, a root 0: needs 2, but 3 and 1 together
        Due.due("needs 3", row(h, 2, new int[][] {{1}, {-1, 1}}, 4, 6, 8), 3);
        Due.due("moved", h.join(4, 2, 0, 3), 1);
        Due.due("needs 4", h.told(3, 4), 4);
        Due.due("first of the moved", h.at(3, 0), 6);
        Due.due("the last one", h.at(3, 299), h.at(2, 300));
    }

    private static void scaled() {
        SumHouse h = Due.house("n^2+1", "k", "0", "1/n", "n^7", "n^6", "n!");
        row(h, 8, new int[][] {{-2}, {1}}, 3);
        Due.due("(n^2 + 1) 3 2^n", h.join(5, 8, 0, 7), 1);
        steps("(n^2 + 1) 3 2^n", h, 7, "-2*n^2-4*n-4", "n^2+1");
        members("(n^2 + 1) 3 2^n", h, 7, 3, 12, 60, 240);
        Due.due("a polynomial in k", h.join(5, 8, 1, 9), -3);
        Due.due("0", h.join(5, 8, 2, 9), -3);
        Due.due("no polynomial", h.join(5, 8, 3, 9), -3);
        Due.due("a term", h.join(5, 8, 6, 9), -3);
        Due.due("degree 7", h.join(5, 8, 4, 9), -2);
        Due.due("degree 6", h.join(5, 8, 5, 9), 1);
        Due.due("slot 12", h.join(5, 8, 12, 9), -1);
    }

    private static void joinBounds() {
        SumHouse h = Due.house("n");
        row(h, 1, new int[][] {{1}, {1}, {1}, {1}}, 1, 1, 1);
        row(h, 2, new int[][] {{1}, {1}, {1}}, 1, 1);
        row(h, 3, new int[][] {{1}, {0, 0, 0, 0, 0, 0, 1, 1}}, 1, 1);
        row(h, 4, new int[][] {{1}, {1}});
        Due.due("3 by 3 is above 6", h.join(2, 1, 1, 5), -2);
        Due.due("3 by 2 is not", h.join(2, 1, 2, 5) > 0 ? 1 : 0, 1);
        Due.due("3 and 3 are not", h.join(0, 1, 1, 5) > 0 ? 1 : 0, 1);
        Due.due("an a_j of degree 7", h.join(0, 3, 2, 5), -2);
        Due.due("the other one", h.join(2, 2, 3, 5), -2);
        Due.due("scaled", h.join(5, 3, 0, 5), -2);
        Due.due("moved it may be", h.join(4, 3, 0, 5), 1);
        int[] far = new int[25];
        far[24] = 1;
        row(h, 6, new int[][] {far, {1}}, 1);
        Due.due("an a_j that is n^24", h.join(0, 6, 2, 5), -2);
        Due.due("not all first numbers", h.join(4, 4, 0, 6), -1);
        Due.due("the other one", h.join(0, 2, 4, 6), -1);
        Due.due("op 6", h.join(6, 1, 99, 6), -1);
        Due.due("op -1", h.join(-1, 1, 99, 6), -1);
        Due.due("no row", h.join(0, 0, 1, 6), -3);
        Due.due("no other row", h.join(0, 1, 0, 6), -3);
        Due.due("op 9 of no row", h.join(9, 0, 0, 6), -3);
        Due.due("slot 12", h.join(0, 1, 12, 6), -1);
        Due.due("to slot 12", h.join(3, 1, 0, 12), -1);
        // 60 first numbers, then more than 60 together
        row(h, 7, new int[][] {{1}, {-58, 1}});
        for (int i = 0; i < 60; i++) {
            Due.due("first", h.first(7, i), i + 1);
        }
        Due.due("60 and 1 together", h.join(4, 7, 0, 8), -2);
        row(h, 7, new int[][] {{1}, {-57, 1}});
        for (int i = 0; i < 59; i++) {
            h.first(7, i);
        }
        Due.due("59 and 1 together", h.join(4, 7, 0, 8), 1);
        Due.due("60", h.told(8, 4), 60);
        // six times summed is too much
        row(h, 9, new int[][] {{-1}, {1}}, 1);
        for (int order = 2; order <= 6; order++) {
            Due.due("summed", h.join(3, 9, 0, 9), order);
        }
        Due.due("C(n + 5, 5) at 10", h.at(9, 10), 3003);
        Due.due("order 7", h.join(3, 9, 0, 9), -2);
    }

    private static void feeding() {
        SumHouse h = new SumHouse();
        Due.due("none yet", h.clear(), 0);
        for (int i = 1; i <= 60; i++) {
            Due.due("fed", h.feed(i), i);
        }
        Due.due("the 61st", h.feed(1), -2);
        Due.due("60", h.count(2), 60);
        Due.due("clear", h.clear(), 60);
        Due.due("clear again", h.clear(), 0);
        Due.due("one", h.feed(-1), 1);
    }

    private static void feed(SumHouse h, long... numbers) {
        h.clear();
        for (long v : numbers) {
            h.feed((int) (v % P));
        }
    }

    private static void guesses() {
        SumHouse h = new SumHouse();
        // r = 1, d = 0: 2 + 4 numbers told at N - 1 places
        feed(h, 1, 2, 4, 8, 16, 32);
        Due.due("6 are too few", h.guess(0), -1);
        feed(h, 1, 2, 4, 8, 16, 32, 64);
        Due.due("2^n", h.guess(0), 1);
        steps("2^n", h, 0, "-2", "1");
        Due.due("its needs", h.told(0, 4), 1);
        Due.due("2^20", h.at(0, 20), 1 << 20);
        feed(h, 1, 1, 2, 6, 24, 120, 720, 5040, 40320, 362880);
        Due.due("n!", h.guess(1), 1);
        steps("n!", h, 1, "-n-1", "1");
        feed(h, 0, 1, 1, 2, 3, 5, 8, 13, 21);
        Due.due("Fibonacci", h.guess(2), 2);
        steps("Fibonacci", h, 2, "-1", "-1", "1");
        // n: order 1 with d = 1 comes ahead of order 2 with d = 0
        feed(h, 0, 1, 2, 3, 4, 5, 6, 7, 8, 9);
        Due.due("n", h.guess(3), 1);
        steps("n", h, 3, "-n-1", "n");
        Due.due("a root 0: needs 2", h.told(3, 4), 2);
        Due.due("300", h.at(3, 300), 300);
        Due.due("they are still fed", h.count(2), 10);
    }

    private static void noGuesses() {
        SumHouse h = Due.house("n");
        Due.due("from none", h.guess(1), -1);
        // n!^8 has an a_0 of degree 8; n!^9 would need one of degree 9
        long[] eighth = new long[60];
        long[] ninth = new long[60];
        for (int n = 0; n < 60; n++) {
            eighth[n] = n == 0 ? 1 : eighth[n - 1];
            ninth[n] = n == 0 ? 1 : ninth[n - 1];
            for (int i = 0; i < 9 && n > 0; i++) {
                eighth[n] = i < 8 ? eighth[n] * n % P : eighth[n];
                ninth[n] = ninth[n] * n % P;
            }
        }
        feed(h, eighth);
        Due.due("n!^8", h.guess(1), 1);
        Due.due("degree 8", h.number(1, 2, 8, 0), P - 1);
        feed(h, ninth);
        Due.due("n!^9", h.guess(1), -1);
        // u(n + 4) = u(n + 3) + u(n), and u(n + 5) = u(n + 4) + u(n)
        long[] four = new long[20];
        long[] five = new long[20];
        for (int n = 0; n < 20; n++) {
            four[n] = n < 4 ? n * n + 3 : four[n - 1] + four[n - 4];
            five[n] = n < 5 ? n * n + 3 : five[n - 1] + five[n - 5];
        }
        feed(h, four);
        Due.due("order 4", h.guess(1), 4);
        steps("order 4", h, 1, "-1", "0", "0", "-1", "1");
        feed(h, five);
        Due.due("order 5", h.guess(2), -1);
        feed(h, 0, 0, 0, 0, 0, 0, 0, 0, 0, 0);
        Due.due("a_0 alone: a_r is 0", h.guess(1), -1);
        feed(h, 1, 0, 0, 0, 0, 0, 0, 0, 0, 0);
        // n u(n) = 0 with d = 1, but u(n + 1) = 0 with d = 0 and a_0 = 0 comes first
        Due.due("1, 0, 0 ..", h.guess(1), 1);
        steps("1, 0, 0 ..", h, 1, "0", "1");
        feed(h, 3, 1, 4, 1, 5, 9, 2, 6, 5, 3, 5, 8, 9, 7, 9);
        Due.due("no recurrence", h.guess(2), -1);
        Due.due("nothing came", h.kind(2), 0);
        Due.due("slot 12", h.guess(12), -1);
        Due.due("slot -1", h.guess(-1), -1);
        // (n - 8) (u(n + 1) - u(n)) = 0 loses its n - 8
        feed(h, 1, 1, 1, 1, 1, 1, 1, 1, 1, 5, 5);
        Due.due("a common divisor", h.guess(2), 1);
        steps("a common divisor", h, 2, "-1", "1");
        Due.due("needs 1", h.told(2, 4), 1);
        Due.due("then 1", h.at(2, 9), 1);
        // C(n, 9): (n + 1) u(n) = (n - 8) u(n + 1)
        feed(h, 0, 0, 0, 0, 0, 0, 0, 0, 0, 1, 10, 55, 220, 715);
        Due.due("C(n, 9)", h.guess(2), 1);
        steps("C(n, 9)", h, 2, "-n-1", "n-8");
        Due.due("needs 10", h.told(2, 4), 10);
        Due.due("C(20, 9)", h.at(2, 20), 167960);
        // with fewer numbers a_0 alone will do, so that a_r is 0
        feed(h, 0, 0, 0, 0, 0, 0, 0, 0, 0, 1, 10);
        Due.due("C(n, 9) to 10", h.guess(2), -1);
        // (n + 1) u(n) = (n - 30) u(n + 1): needs 32
        long[] far = new long[30];
        far[0] = 1;
        for (int n = 0; n < 29; n++) {
            java.math.BigInteger by = java.math.BigInteger.valueOf(n - 30).modInverse(java.math.BigInteger.valueOf(P));
            far[n + 1] = far[n] * (n + 1) % P * by.longValue() % P;
        }
        feed(h, far);
        Due.due("it needs more than are there", h.guess(2), -1);
        Due.due("C(n, 9) stays", h.at(2, 20), 167960);
    }
}
