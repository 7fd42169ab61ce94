import java.math.BigInteger;
import java.util.Arrays;

/** "Terms", section 6, and promises 26 to 32: rows, joined and guessed, at the bounds that they name. */
public final class RowsEdgesTest {
    private static final String WHERE = "Terms 6";
    private static final String NEEDED = "at least the most that one of those needs which it comes from, and its own order together";
    private static final int P = 2147483647;

    public static void main(String[] args) {
        made();
        needs();
        firsts();
        furtherNumbers();
        rowsOfRecords();
        sums();
        products();
        leastOrders();
        summed();
        moved();
        scaled();
        needsOfJoined();
        ordersAbove();
        degreesOfWhatIsJoined();
        degreesOfWhatComes();
        firstNumbersAbove();
        otherJoins();
        fed();
        guessBounds();
        guessOrder();
        guessesMade();
        guessNeeds();
        noGuesses();
        Due.end();
    }

    private static int[] power(int degree, int head) {
        int[] numbers = new int[degree + 1];
        numbers[degree] = head;
        return numbers;
    }

    private static String step(SumHouse h, int slot, int m) {
        return Due.came(h, h.part(slot, m, 9), 9);
    }

    private static void steps(String what, SumHouse h, int slot, String... want) {
        Due.due(what + ": order", h.told(slot, 3), want.length - 1);
        for (int m = 0; m < want.length; m++) {
            Due.due(what + ": a_" + m, step(h, slot, m), Due.plain(want[m]));
        }
    }

    private static void members(String what, SumHouse h, int slot, long... want) {
        for (int i = 0; i < want.length; i++) {
            Due.due(what + " at " + i, h.at(slot, i), (want[i] % P + P) % P);
        }
    }

    /** That the row's numbers keep to its recurrence behind its first numbers, and all if so told. */
    private static void keeps(String what, SumHouse h, int slot, int from) {
        int order = h.told(slot, 3);
        for (int n = from; n + order <= 60; n++) {
            long sum = 0;
            for (int m = 0; m <= order; m++) {
                h.part(slot, m, 9);
                sum = (sum + (long) h.value(9, n, 0) * h.at(slot, n + m)) % P;
            }
            Due.due(what + " keeps to its recurrence at " + n, sum, 0);
        }
    }

    private static void made() {
        Due.of(WHERE, "the a_j polynomials in n of degree 24 at most without a common divisor, a_r with head 1");
        SumHouse h = new SumHouse();
        Due.due("(n + 1) times", RowsTest.row(h, 0, new int[][] {{4, 6, 2}, {4, 4}}), 1);
        steps("without n + 1", h, 0, "(n+2)/2", "1");
        Due.due("n^24", RowsTest.row(h, 0, new int[][] {power(24, 3), power(24, 5)}), 1);
        steps("without n^24", h, 0, "3/5", "1");
        Due.due("n^24 and 1", RowsTest.row(h, 0, new int[][] {power(24, 3), {5}}), 1);
        steps("with n^24", h, 0, "3*n^24/5", "1");
        Due.due("a_0 is 0", RowsTest.row(h, 0, new int[][] {{0}, {3, 3}}), 1);
        steps("0 and 1", h, 0, "0", "1");
        Due.due("a_1 of three is 0", RowsTest.row(h, 0, new int[][] {{2}, {0}, {0, 4}}), 3);
        steps("a half, 0, n", h, 0, "1/2", "0", "n");
    }

    private static void needs() {
        Due.of(WHERE, "as many as it NEEDS, 60 at most: r, or r + 1 + m for each whole m of 0 .. 300 with a_r(m) = 0, whatever is most");
        SumHouse h = new SumHouse();
        int[][] orders = {{1, 58}, {2, 57}, {3, 56}};
        for (int[] order : orders) {
            int r = order[0];
            int[][] steps = new int[r + 1][];
            for (int m = 0; m < r; m++) {
                steps[m] = new int[] {m + 1};
            }
            int[][] roots = {{-1, r}, {0, r + 1}, {1, r + 2}, {order[1], 60}, {order[1] + 1, -2}, {300, -2}, {301, r},
                {-300, r}};
            for (int[] root : roots) {
                steps[r] = new int[] {-root[0], 1};
                Due.due("order " + r + ", root " + root[0], RowsTest.row(h, 0, steps), root[1]);
                Due.due("told", root[1] < 0 ? -2 : h.told(0, 4), root[1]);
            }
        }
        // (n - 2) (n - 5) and (n - 5)^2 (n + 9)
        Due.due("roots 2 and 5", RowsTest.row(h, 0, new int[][] {{1}, {10, -7, 1}}), 7);
        Due.due("roots 5, 5, -9", RowsTest.row(h, 0, new int[][] {{1}, {225, -65, -1, 1}}), 7);
        Due.due("roots 5 and 300", RowsTest.row(h, 0, new int[][] {{1}, {1500, -305, 1}}), -2);
        Due.due("roots 5 and 301", RowsTest.row(h, 0, new int[][] {{1}, {1505, -306, 1}}), 7);
        Due.due("a root that a_0 has, too, goes", RowsTest.row(h, 0, new int[][] {{-7, 1}, {14, -9, 1}}), 4);
        Due.due("P + 5, told as 5 - P", RowsTest.row(h, 0, new int[][] {{1}, {P - 5, 1}}), 7);
    }

    private static void firsts() {
        Due.of("Promise 27", "The row's next first number becomes v: how many it has. NONE when it has all");
        SumHouse h = new SumHouse();
        RowsTest.row(h, 0, new int[][] {{1}, {-2, 1}});
        for (int i = 1; i <= 4; i++) {
            Due.due("none yet at " + i, h.at(0, 0), -1);
            Due.due("first " + i, h.first(0, 10 * i), i);
        }
        Due.due("the fifth", h.first(0, 50), -1);
        members("as told", h, 0, 10, 20, 30, 40);
        Due.due("told needs", h.told(0, 4), 4);
        RowsTest.row(h, 1, new int[][] {{1}, {-58, 1}});
        for (int i = 1; i <= 60; i++) {
            Due.due("of 60", h.first(1, i), i);
        }
        Due.due("the 61st", h.first(1, 61), -1);
        Due.due("the last", h.at(1, 59), 60);
        Due.of("Promise 28", "u(i), i 0 .. 300. NONE otherwise, or when it has not all first numbers");
        Due.due("at 0", h.at(0, 0), 10);
        Due.due("at 300", h.at(0, 300) >= 0 ? 1 : 0, 1);
        Due.due("at 301", h.at(0, 301), -1);
        Due.due("at -1", h.at(0, -1), -1);
        Due.due("at the greatest int", h.at(0, Integer.MAX_VALUE), -1);
        Due.due("at the least int", h.at(0, Integer.MIN_VALUE), -1);
        RowsTest.row(h, 2, new int[][] {{1}, {1}, {1}}, 4);
        Due.due("one of two", h.at(2, 0), -1);
        Due.due("the other", h.first(2, 5), 2);
        Due.due("then", h.at(2, 0), 4);
    }

    private static void furtherNumbers() {
        Due.of(WHERE, "Its further numbers up to u(300) are found by the recurrence, one after the other (the first ones stand as they are told)");
        SumHouse h = new SumHouse();
        RowsTest.row(h, 0, new int[][] {{-2}, {1}}, 3);
        Due.due("3 2^300", h.at(0, 300), BigInteger.TWO.pow(300).multiply(BigInteger.valueOf(3)).mod(BigInteger.valueOf(P)).longValue());
        // (n - 2) u(n + 1) = u(n): the numbers told do not keep to it
        RowsTest.row(h, 1, new int[][] {{-1}, {-2, 1}}, 9, 8, 7, 6);
        members("6, 6/1, 6/2, 6/6", h, 1, 9, 8, 7, 6, 6, 3, 1);
        keeps("from 3 on", h, 1, 3);
        RowsTest.row(h, 2, new int[][] {{1}, {0}, {-2, 1}}, 1, 2, 3, 4, 5);
        keeps("order 2", h, 2, 3);
        // a_1 is 0 at 301 alone: u(300) needs a_1(299)
        RowsTest.row(h, 3, new int[][] {{-1}, {-301, 1}}, 1);
        keeps("root 301", h, 3, 0);
        Due.due("u(300)", h.at(3, 300) > 0 ? 1 : 0, 1);
        RowsTest.row(h, 4, new int[][] {{0}, {1}}, 5);
        members("5, then 0", h, 4, 5, 0, 0);
    }

    private static void rowsOfRecords() {
        Due.of("Promise 26", "The row of a record's recurrence, which has an order of 1 and more (NONE otherwise, also when a_r is 0)");
        SumHouse h = Due.house("(-1)^k*C(n,k)", "C(n,k)", "C(n,k)^3", "C(n,3*k)");
        for (int i = 0; i < 4; i++) {
            h.recur(i, 3, 4 + i);
            Due.due("order " + i, h.row(4 + i, 8), i == 0 ? -1 : i);
        }
        h.poke(7, 3, 0, 0, 0);
        Due.due("a_3 is 0", h.row(7, 8), -1);
        h.poke(7, 0, 0, 0, 0);
        h.poke(7, 1, 0, 0, 0);
        h.poke(7, 2, 0, 0, 0);
        Due.due("all are 0", h.row(7, 8), -1);
        h.poke(7, 3, 0, 0, 2);
        Due.due("a_3 alone", h.row(7, 8), 3);
        steps("a_3 alone", h, 8, "0", "0", "0", "1");
        Due.of("Promise 26", "without first numbers: how many it needs. LARGE when these are more than 60");
        Due.due("a row over one that is full", h.row(5, 8), 1);
        Due.due("no first numbers", h.at(8, 0), -1);
        h.first(8, 1);
        Due.due("then it has them", h.at(8, 0), 1);
        Due.due("made again", h.row(5, 8), 1);
        Due.due("without them", h.at(8, 0), -1);
        h.poke(5, 1, 1, 0, 1);
        h.poke(5, 1, 0, 0, -58);
        Due.due("60", h.row(5, 8), 60);
        h.poke(5, 1, 0, 0, -59);
        Due.due("61", h.row(5, 8), -2);
        Due.due("into its own place", h.row(6, 6), 2);
        Due.due("a row", h.kind(6), 4);
    }

    private static void sums() {
        Due.of(WHERE, "JOINED: w(n) = u(n) + v(n), u(n) - v(n)");
        SumHouse h = new SumHouse();
        RowsTest.row(h, 0, new int[][] {{-2}, {1}}, 1);
        RowsTest.row(h, 1, new int[][] {{-1, -1}, {1}}, 1);
        Due.due("2^n + n!", h.join(0, 0, 1, 2), 2);
        members("2^n + n!", h, 2, 2, 3, 6, 14, 40, 152, 784);
        keeps("2^n + n!", h, 2, 0);
        Due.due("2^n - n!", h.join(1, 0, 1, 3), 2);
        members("2^n - n!", h, 3, 0, 1, 2, 2, -8, -88);
        keeps("2^n - n!", h, 3, 0);
        for (int m = 0; m <= 2; m++) {
            Due.due("the same recurrence", step(h, 3, m), step(h, 2, m));
        }
        Due.due("n! - 2^n", h.join(1, 1, 0, 4), 2);
        members("n! - 2^n", h, 4, 0, -1, -2, -2, 8, 88);
        Due.of(WHERE, "(In u - u, u + u, u u the two are different letters.)");
        Due.due("2^n - 2^n", h.join(1, 0, 0, 5), 1);
        steps("2^n - 2^n", h, 5, "0-2", "1");
        members("2^n - 2^n", h, 5, 0, 0, 0);
        RowsTest.row(h, 6, new int[][] {{-1}, {-1}, {1}}, 0, 1);
        Due.due("F + F", h.join(0, 6, 6, 5), 2);
        steps("F + F", h, 5, "0-1", "0-1", "1");
        members("F + F", h, 5, 0, 2, 2, 4, 6);
        // u(n) v(n), u(n) v(n + 1) + u(n + 1) v(n), u(n + 1) v(n + 1)
        Due.due("F F", h.join(2, 6, 6, 5), 3);
        members("F F", h, 5, 0, 1, 1, 4, 9, 25);
    }

    private static void products() {
        Due.of(WHERE, "or u(n) v(n): .. or times their products");
        SumHouse h = new SumHouse();
        RowsTest.row(h, 0, new int[][] {{-1}, {-1}, {1}}, 0, 1);
        RowsTest.row(h, 1, new int[][] {{-1}, {-2}, {1}}, 0, 1);
        Due.due("F times Pell", h.join(2, 0, 1, 2), 4);
        steps("F times Pell", h, 2, "1", "0-2", "0-7", "0-2", "1");
        members("F times Pell", h, 2, 0, 1, 2, 10, 36, 145);
        keeps("F times Pell", h, 2, 0);
        RowsTest.row(h, 3, new int[][] {{-1, -1}, {2, 1}}, 1);
        Due.due("F by n + 1", h.join(2, 0, 3, 4), 2);
        steps("F by n + 1", h, 4, "0-(n+1)", "0-(n+2)", "n+3");
        keeps("F by n + 1", h, 4, 0);
        Due.due("by n + 1 times F", h.join(2, 3, 0, 5), 2);
        steps("by n + 1 times F", h, 5, "0-(n+1)", "0-(n+2)", "n+3");
    }

    private static void leastOrders() {
        Due.of(WHERE, "the least j, 1 .. 6, for which w(n) .. w(n + j) are dependent (all the numbers that stand at one of these taken apart)");
        SumHouse h = new SumHouse();
        RowsTest.row(h, 0, new int[][] {{1}, {1}, {1}, {1}}, 1, 2, 3);
        RowsTest.row(h, 1, new int[][] {{1}, {1}, {1}, {2}}, 1, 2, 3);
        Due.due("3 and 3 with the same recurrence", h.join(0, 0, 0, 2), 3);
        Due.due("3 and 3", h.join(0, 0, 1, 2), 6);
        keeps("3 and 3", h, 2, 0);
        // u(n + 3) + u(n + 2) + u(n + 1) + u(n) has -1, i, -i; u(n + 2) + u(n) has i, -i
        RowsTest.row(h, 3, new int[][] {{1}, {0}, {1}}, 1, 2);
        Due.due("3 and 2 with two numbers alike", h.join(1, 0, 3, 2), 3);
        steps("3 and 2", h, 2, "1", "1", "1", "1");
        // a row whose a_0 is 0: w(n + 1) is 0
        RowsTest.row(h, 4, new int[][] {{0}, {1}}, 5);
        Due.due("5, 0, 0 .. twice", h.join(0, 4, 4, 2), 1);
        steps("5, 0, 0 .. twice", h, 2, "0", "1");
        Due.due("5, 0, 0 .. times a row", h.join(2, 4, 3, 2), 1);
        steps("5, 0, 0 .. times a row", h, 2, "0", "1");
    }

    private static void summed() {
        Due.of(WHERE, "SUMMED: w(n) = u(0) + .. + u(n): of order r + 1: u(n + j) in u's recurrence with n + 1 for n being w(n + j) - w(n + j - 1)");
        SumHouse h = new SumHouse();
        RowsTest.row(h, 0, new int[][] {{-1, -1}, {1}}, 1);
        Due.due("n! summed", h.join(3, 0, 0, 1), 2);
        steps("n! summed", h, 1, "n+2", "0-n-3", "1");
        members("n! summed", h, 1, 1, 2, 4, 10, 34);
        keeps("n! summed", h, 1, 0);
        RowsTest.row(h, 2, new int[][] {{-1}, {-1}, {1}}, 0, 1);
        Due.due("F summed", h.join(3, 2, 0, 3), 3);
        steps("F summed", h, 3, "1", "0", "0-2", "1");
        members("F summed", h, 3, 0, 1, 2, 4, 7, 12, 20);
        // n u(n + 1) = (n + 1) u(n): w(0) is u(0)
        RowsTest.row(h, 4, new int[][] {{-1, -1}, {0, 1}}, 7, 1);
        Due.due("7, 1, 2, 3 .. summed", h.join(3, 4, 0, 5), 2);
        members("7, 1, 2, 3 .. summed", h, 5, 7, 8, 10, 13, 17);
        keeps("7, 1, 2, 3 .. summed", h, 5, 0);
        // not of a lesser order where there is one
        RowsTest.row(h, 6, new int[][] {{0}, {1}}, 5);
        Due.due("5, 0, 0 .. summed", h.join(3, 6, 0, 7), 2);
        steps("5, 0, 0 .. summed", h, 7, "0", "0-1", "1");
        members("5, 0, 0 .. summed", h, 7, 5, 5, 5);
    }

    private static void moved() {
        Due.of(WHERE, "MOVED: w(n) = u(n + 1): u's recurrence with n + 1 for n");
        SumHouse h = new SumHouse();
        RowsTest.row(h, 0, new int[][] {{-1, -1}, {1}}, 1);
        Due.due("n! moved", h.join(4, 0, 0, 1), 1);
        steps("n! moved", h, 1, "0-n-2", "1");
        members("n! moved", h, 1, 1, 2, 6, 24);
        Due.due("its last is the 300th", h.at(1, 299), h.at(0, 300));
        RowsTest.row(h, 2, new int[][] {power(24, 1), {1, 1}}, 3);
        Due.due("n^24 moved", h.join(4, 2, 0, 3), 1);
        steps("n^24 moved", h, 3, "(n+1)^24", "n+2");
        Due.due("summed, its degree being no bound", h.join(3, 2, 0, 3), 2);
        steps("n^24 summed", h, 3, "0-(n+1)^24", "(n+1)^24-n-2", "n+2");
    }

    private static void scaled() {
        Due.of(WHERE, "SCALED by a polynomial s in n that is not 0: w(n) = s(n) u(n)");
        SumHouse h = Due.house("n^2+1", "3", "n-4");
        RowsTest.row(h, 3, new int[][] {{-1}, {-1}, {1}}, 0, 1);
        Due.due("(n^2 + 1) F", h.join(5, 3, 0, 4), 2);
        steps("(n^2 + 1) F", h, 4, "0-((n+1)^2+1)*((n+2)^2+1)", "0-(n^2+1)*((n+2)^2+1)", "(n^2+1)*((n+1)^2+1)");
        members("(n^2 + 1) F", h, 4, 0, 2, 5, 20, 51);
        keeps("(n^2 + 1) F", h, 4, 0);
        Due.due("3 F", h.join(5, 3, 1, 4), 2);
        steps("3 F", h, 4, "0-1", "0-1", "1");
        members("3 F", h, 4, 0, 3, 3, 6);
        // a_2 is (n - 4) (n - 3): needs 2 + 1 + 4 of its own
        Due.due("(n - 4) F", h.join(5, 3, 2, 4), 2);
        steps("(n - 4) F", h, 4, "0-(n-3)*(n-2)", "0-(n-4)*(n-2)", "(n-4)*(n-3)");
        Due.due("its needs", h.told(4, 4), 7);
        members("(n - 4) F", h, 4, 0, -3, -2, -2, 0, 5, 16, 39);
    }

    private static void needsOfJoined() {
        Due.of(WHERE, NEEDED + "; its first numbers are those of w");
        SumHouse h = Due.house("1");
        RowsTest.row(h, 1, new int[][] {{-2}, {1}}, 1);
        RowsTest.row(h, 2, new int[][] {{1}, {-5, 1}}, 1, 2, 3, 4, 5, 6, 7);
        Due.due("1 and 7: order 2", h.join(0, 1, 2, 3), 2);
        Due.due("7 and 2", h.told(3, 4), 9);
        Due.due("7 and 1: order 2", h.join(1, 2, 1, 3), 2);
        Due.due("7 and 2", h.told(3, 4), 9);
        Due.due("their product: order 1", h.join(2, 1, 2, 3), 1);
        Due.due("7 and 1", h.told(3, 4), 8);
        members("all of them are w's", h, 3, 1, 4, 12, 32, 80, 192, 448);
        Due.due("summed: order 2", h.join(3, 2, 0, 3), 2);
        Due.due("7 and 2", h.told(3, 4), 9);
        Due.due("moved: order 1", h.join(4, 2, 0, 3), 1);
        Due.due("7 and 1, though a_1 is n - 4", h.told(3, 4), 8);
        Due.due("scaled by 1: order 1", h.join(5, 2, 0, 3), 1);
        Due.due("7 and 1", h.told(3, 4), 8);
        Due.due("scaled again", h.join(5, 3, 0, 3), 1);
        Due.due("8 and 1", h.told(3, 4), 9);
        // the recurrence's own needs are more: a_1 is n - 4
        Due.read(h, "n-4", 0);
        Due.due("2^n (n - 4)", h.join(5, 1, 0, 3), 1);
        Due.due("2 and 4", h.told(3, 4), 6);
        members("2^n (n - 4)", h, 3, -4, -6, -8, -8, 0, 32, 128);
    }

    private static void ordersAbove() {
        Due.of(WHERE, "LARGE: r + q (sums), r q (products) above 6");
        SumHouse h = new SumHouse();
        RowsTest.row(h, 1, new int[][] {{-2}, {1}}, 1);
        RowsTest.row(h, 2, new int[][] {{-1}, {-1}, {1}}, 0, 1);
        RowsTest.row(h, 3, new int[][] {{1}, {1}, {1}, {2}}, 1, 2, 3);
        RowsTest.row(h, 8, new int[][] {{1}, {1}, {1}, {3}}, 1, 2, 3);
        Due.due("3 and 3", h.join(0, 3, 8, 6), 6);
        Due.due("6 and 1", h.join(0, 6, 1, 7), -2);
        Due.due("1 and 6", h.join(1, 1, 6, 7), -2);
        Due.due("6 by 1", h.join(2, 6, 1, 7), 6);
        Due.due("1 by 6", h.join(2, 1, 6, 7), 6);
        Due.due("6 by 2", h.join(2, 6, 2, 7), -2);
        Due.due("3 by 2", h.join(2, 3, 2, 7), 6);
        Due.due("2 by 3", h.join(2, 2, 3, 7), 6);
        Due.due("3 by 3", h.join(2, 3, 3, 7), -2);
        Due.due("2 and 2", h.join(0, 2, 2, 4), 2);
        Due.due("4 of 2 and another", h.join(0, 2, 1, 4), 3);
        Due.due("4", h.join(3, 4, 0, 4), 4);
        Due.due("4 and 2", h.join(1, 4, 2, 7) > 0 ? 1 : 0, 1);
        Due.due("4 and 3", h.join(1, 4, 3, 7), -2);
        Due.due("4 by 1", h.join(2, 4, 1, 7) > 0 ? 1 : 0, 1);
        Due.due("4 by 2", h.join(2, 4, 2, 7), -2);
        // 2 and 5 have a recurrence of order 5 together, but the orders are looked at first
        Due.due("5", h.join(3, 4, 0, 5), 5);
        Due.due("5 and 2", h.join(0, 5, 2, 7), -2);
        Due.due("5 and 1", h.join(0, 5, 1, 7) > 0 ? 1 : 0, 1);
        Due.of(WHERE, "an order above 6");
        Due.due("5 summed", h.join(3, 5, 0, 5), 6);
        Due.due("6 summed", h.join(3, 5, 0, 5), -2);
        Due.due("6 moved", h.join(4, 5, 0, 5), 6);
        Due.read(h, "n+1", 0);
        Due.due("6 scaled", h.join(5, 5, 0, 5), 6);
    }

    private static void degreesOfWhatIsJoined() {
        Due.of(WHERE, "LARGE: .. for joined and scaled an a_j, or s, of degree above 6 in what it comes from");
        SumHouse h = Due.house("n^6+1", "n^7+1", "n+1");
        RowsTest.row(h, 3, new int[][] {power(6, 2), {1, 1}}, 1);
        RowsTest.row(h, 4, new int[][] {power(7, 2), {1, 1}}, 1);
        RowsTest.row(h, 5, new int[][] {{1}, {5, 0, 0, 0, 0, 0, 2}}, 1);
        RowsTest.row(h, 6, new int[][] {{1}, {5, 0, 0, 0, 0, 0, 0, 2}}, 1);
        RowsTest.row(h, 7, new int[][] {{-1}, power(7, 1), {1}}, 1, 1);
        RowsTest.row(h, 8, new int[][] {{-2}, {1}}, 1);
        for (int op = 0; op <= 2; op++) {
            Due.due("a_0 of degree 6, op " + op, h.join(op, 3, 8, 11) > 0 ? 1 : 0, 1);
            Due.due("a_0 of degree 7, op " + op, h.join(op, 4, 8, 11), -2);
            Due.due("the other's a_0 of degree 6, op " + op, h.join(op, 8, 3, 11) > 0 ? 1 : 0, 1);
            Due.due("the other's a_0 of degree 7, op " + op, h.join(op, 8, 4, 11), -2);
            Due.due("a_1 of degree 6, op " + op, h.join(op, 5, 8, 11) > 0 ? 1 : 0, 1);
            Due.due("a_1 of degree 7, op " + op, h.join(op, 6, 8, 11), -2);
            Due.due("the other's a_1 of degree 6, op " + op, h.join(op, 8, 5, 11) > 0 ? 1 : 0, 1);
            Due.due("the other's a_1 of degree 7, op " + op, h.join(op, 8, 6, 11), -2);
            Due.due("the middle one of degree 7, op " + op, h.join(op, 7, 8, 11), -2);
        }
        Due.due("scaled, a_0 of degree 6", h.join(5, 3, 2, 11), 1);
        Due.due("scaled, a_0 of degree 7", h.join(5, 4, 2, 11), -2);
        Due.due("scaled, a_1 of degree 7", h.join(5, 6, 2, 11), -2);
        Due.due("s of degree 6", h.join(5, 3, 0, 11), 1);
        Due.due("s of degree 7", h.join(5, 3, 1, 11), -2);
        Due.due("s of degree 7 and 2^n", h.join(5, 8, 1, 11), -2);
        Due.due("summed, of degree 7", h.join(3, 4, 0, 11), 2);
        Due.due("moved, of degree 7", h.join(4, 6, 0, 11), 1);
    }

    private static void degreesOfWhatComes() {
        Due.of(WHERE, "LARGE: .. a degree of what comes above 24");
        SumHouse h = Due.house("n^6+n+3", "n^5+n+3", "n^4+n+3");
        // orders 2 and 1 of the degrees d and e: 2 d + 3 e
        RowsTest.row(h, 3, new int[][] {{1, 1, 1, 3}, {5, 1, 2, 4}, {1, 3, 2, 7}}, 1, 2);
        RowsTest.row(h, 4, new int[][] {{1, 1, 1, 1, 3, 1, 4}, {3, 1, 1, 4, 1, 5, 2}}, 1);
        Due.due("3 and 6: 24", h.join(0, 3, 4, 11), 3);
        Due.due("a_3 at n^24", h.number(11, 5, 24, 0), 1);
        keeps("3 and 6", h, 11, 0);
        RowsTest.row(h, 5, new int[][] {{1, 1, 1, 3, 1, 2}, {5, 1, 2, 4, 2, 3}, {1, 3, 2, 7, 5, 8}}, 1, 2);
        RowsTest.row(h, 6, new int[][] {{1, 1, 1, 1, 3, 1}, {3, 1, 1, 4, 1, 5}}, 1);
        Due.due("5 and 5: 25", h.join(0, 5, 6, 11), -2);
        Due.due("5 and 5 the other way", h.join(1, 6, 5, 11), -2);
        Due.due("their product: 5 and 10", h.join(2, 5, 6, 11), 2);
        // two of order 1 and degree 6: 24; orders 2 and 2 of degree 3: 24 for the product
        RowsTest.row(h, 7, new int[][] {{2, 1, 0, 1, 3, 1, 5}, {3, 7, 1, 4, 1, 5, 3}}, 1);
        Due.due("6 and 6", h.join(0, 4, 7, 11), 2);
        Due.due("a_2 at n^24", h.number(11, 4, 24, 0), 1);
        RowsTest.row(h, 8, new int[][] {{1, 1, 2, 5}, {5, 7, 2, 3}, {2, 3, 2, 9}}, 1, 2);
        Due.due("3 by 3", h.join(2, 3, 8, 11), 4);
        Due.due("a_4 at n^24", h.number(11, 6, 24, 0), 1);
        RowsTest.row(h, 8, new int[][] {{1, 1, 2, 5, 3}, {5, 7, 2, 3, 5}, {2, 3, 2, 9, 4}}, 1, 2);
        Due.due("3 by 4: 28", h.join(2, 3, 8, 11), -2);
        // one a_j alone is above: of order 4, the first, the last, the fourth, the second
        int[][][] degrees = {{{6, 0, 0, 0}, {5, 0}}, {{0, 0, 0, 6}, {0, 5}}, {{0, 0, 0, 3}, {5, 0}}, {{3, 0, 0, 0}, {0, 5}},
            {{4, 0, 0, 0}, {5, 0}}, {{2, 0, 0, 0}, {0, 5}}, {{0, 0, 0, 6}, {0, 3}}};
        int[] want = {-2, -2, -2, -2, 4, 4, 4};
        for (int i = 0; i < degrees.length; i++) {
            SumHouse f = new SumHouse();
            RowsTest.row(f, 0, steps(degrees[i][0], 2, 3, 5, 7), 1, 2, 3);
            RowsTest.row(f, 1, steps(degrees[i][1], 11, 13), 1);
            Due.due("one alone, " + i, f.join(0, 0, 1, 2), want[i]);
        }
        // numbers alone, scaled: the order times the degree of s
        SumHouse g = Due.house("n^6+n+3", "n^5+n+3", "n^4+n+3", "1", "1", "1", "1");
        int[] bases = {2, 3, 5, 7, 11};
        for (int i = 0; i < 5; i++) {
            RowsTest.row(g, 3, new int[][] {{-bases[i]}, {1}}, 1);
            Due.due("of order " + (i + 1), i == 0 ? g.join(5, 3, 6, 4) : g.join(0, 4, 3, 4), i + 1);
            if (i == 3) {
                Due.due("4 by 6: 24", g.join(5, 4, 0, 5), 4);
                Due.due("a_0 at n^24", g.number(5, 2, 24, 0), 210);
            }
        }
        Due.due("5 by 4: 20", g.join(5, 4, 2, 5), 5);
        Due.due("5 by 5: 25", g.join(5, 4, 1, 5), -2);
    }

    /** Polynomials of these degrees and heads. */
    private static int[][] steps(int[] degrees, int... heads) {
        int[][] steps = new int[degrees.length][];
        for (int m = 0; m < steps.length; m++) {
            steps[m] = Arrays.copyOf(new int[] {1, 2, 3, 1, 2, 1, 5}, degrees[m] + 1);
            steps[m][degrees[m]] = heads[m];
        }
        return steps;
    }

    private static void firstNumbersAbove() {
        Due.of(WHERE, "LARGE: .. more than 60 first numbers");
        SumHouse h = Due.house("n-57", "n-58", "n-59", "1");
        RowsTest.row(h, 4, new int[][] {{-2}, {1}}, 1);
        RowsTest.row(h, 5, new int[][] {{-1}, {-1}, {1}}, 0, 1);
        Due.due("a_1 is n - 57", h.join(5, 4, 0, 6), 1);
        Due.due("59", h.told(6, 4), 59);
        Due.due("a_1 is n - 58", h.join(5, 4, 1, 7), 1);
        Due.due("60", h.told(7, 4), 60);
        Due.due("a_1 is n - 59", h.join(5, 4, 2, 8), -2);
        Due.due("59 and 1", h.join(4, 6, 0, 8), 1);
        Due.due("60", h.told(8, 4), 60);
        Due.due("the last of the 60, moved", h.at(8, 59), h.at(6, 60));
        Due.due("60 and 1", h.join(4, 7, 0, 8), -2);
        Due.due("59 and 2, summed", h.join(3, 6, 0, 8), -2);
        Due.due("59 and 2, a sum", h.join(0, 6, 4, 8), -2);
        Due.due("59 and 2, the other's", h.join(1, 4, 6, 8), -2);
        Due.due("59 and 2, a product", h.join(2, 5, 6, 8), -2);
        Due.due("59 and 1, a product", h.join(2, 4, 6, 8), 1);
        Due.due("the last of the 60, a product", h.at(8, 59), (long) h.at(4, 59) * h.at(6, 59) % P);
        Due.due("59 and 1, a product, the other way", h.join(2, 6, 4, 8), 1);
        Due.due("the last of the 60, the other way", h.at(8, 59), (long) h.at(4, 59) * h.at(6, 59) % P);
        Due.due("59 and 1, scaled", h.join(5, 6, 3, 8), 1);
        Due.due("60 and 1, scaled", h.join(5, 7, 3, 8), -2);
        Due.due("F (n - 57)", h.join(5, 5, 0, 8), 2);
        // a_2 is (n - 57) (n - 56)
        Due.due("2 + 1 + 57", h.told(8, 4), 60);
        Due.due("F (n - 58)", h.join(5, 5, 1, 8), -2);
        SumHouse g = new SumHouse();
        RowsTest.row(g, 1, new int[][] {{-2}, {1}}, 1);
        for (int needs = 2; needs <= 60; needs++) {
            Due.due("moved once more", g.join(4, 1, 0, 1), 1);
            Due.due("needs", g.told(1, 4), needs);
        }
        Due.due("moved the 60th time", g.join(4, 1, 0, 1), -2);
        Due.due("2^59, 2^31 being 1", g.at(1, 0), 1 << 28);
    }

    private static void otherJoins() {
        Due.of("Promise 29", "Rows that have all first numbers (NONE otherwise)");
        SumHouse h = Due.house("n", "k", "0", "1/n", "n!", "n+k");
        RowsTest.row(h, 6, new int[][] {{-1}, {-1}, {1}}, 0, 1);
        RowsTest.row(h, 7, new int[][] {{-1}, {-1}, {1}}, 0);
        for (int op = 0; op <= 2; op++) {
            Due.due("the first has not all, op " + op, h.join(op, 7, 6, 8), -1);
            Due.due("the second has not all, op " + op, h.join(op, 6, 7, 8), -1);
            Due.due("both have, op " + op, h.join(op, 6, 6, 8) > 0 ? 1 : 0, 1);
        }
        for (int op = 3; op <= 5; op++) {
            Due.due("it has not all, op " + op, h.join(op, 7, 0, 8), -1);
            Due.due("it has, op " + op, h.join(op, 6, 0, 8) > 0 ? 1 : 0, 1);
        }
        Due.of("Promise 29", "5 a scaled by the polynomial in n alone in slot b (KIND for others, also 0)");
        for (int slot = 1; slot <= 5; slot++) {
            Due.due("slot " + slot, h.join(5, 6, slot, 8), -3);
            Due.due("slot " + slot + ", and it has not all", h.join(5, 7, slot, 8), -3);
        }
        Due.due("an empty slot", h.join(5, 6, 9, 9), -3);
        Due.due("a record", h.join(5, 6, 10, 9), -3);
        Due.due("a row", h.join(5, 6, 6, 9), -3);
        Due.of("Promise 29", "(b is looked at for 0 .. 2 and 5 alone)");
        for (int b : new int[] {12, -1, Integer.MAX_VALUE, Integer.MIN_VALUE, 9, 4}) {
            Due.due("3 with " + b, h.join(3, 6, b, 8), 3);
            Due.due("4 with " + b, h.join(4, 6, b, 8), 2);
            Due.due("6 with " + b, h.join(6, 6, b, 8), -1);
            Due.due("-1 with " + b, h.join(-1, 6, b, 8), -1);
            Due.due("0 with " + b, h.join(0, 6, b, 8), b == 9 || b == 4 ? -3 : -1);
            Due.due("5 with " + b, h.join(5, 6, b, 8), b == 9 || b == 4 ? -3 : -1);
        }
        Due.of("Promise 29", "NONE for other ops");
        for (int op : new int[] {6, -1, Integer.MAX_VALUE, Integer.MIN_VALUE}) {
            Due.due("op " + op, h.join(op, 6, 6, 8), -1);
            Due.due("op " + op + " of no row", h.join(op, 0, 6, 8), -3);
        }
    }

    private static void feed(SumHouse h, long... numbers) {
        h.clear();
        for (long v : numbers) {
            h.feed((int) ((v % P + P) % P));
        }
    }

    private static void fed() {
        Due.of("Promise 30", "One more number is fed: how many. LARGE when there are 60");
        SumHouse h = new SumHouse();
        for (int i = 1; i <= 60; i++) {
            Due.due("fed", h.feed(1 << i % 31), i);
        }
        Due.due("the 61st", h.feed(1), -2);
        Due.due("the 62nd", h.feed(1), -2);
        Due.due("60", h.count(2), 60);
        Due.due("they stand", h.guess(0), 1);
        steps("2^(n + 1)", h, 0, "0-2", "1");
        Due.of("Promise 31", "No numbers are fed any more: how many there were");
        Due.due("clear", h.clear(), 60);
        Due.due("none", h.count(2), 0);
        Due.due("clear again", h.clear(), 0);
        Due.due("the first again", h.feed(9), 1);
        Due.due("what was fed before is gone", h.guess(1), -1);
        Due.due("clear", h.clear(), 1);
    }

    /** Numbers by a_0(n) u(n) + .. = 0, the a_j being told as functions of n by their numbers. */
    private static long[] numbers(int count, int[][] steps, long... firsts) {
        int r = steps.length - 1;
        long[] u = new long[count];
        System.arraycopy(firsts, 0, u, 0, Math.min(count, firsts.length));
        for (int i = firsts.length; i < count; i++) {
            long sum = 0;
            for (int m = 0; m < r; m++) {
                sum = (sum + at(steps[m], i - r) * u[i - r + m]) % P;
            }
            long by = BigInteger.valueOf(at(steps[r], i - r)).modInverse(BigInteger.valueOf(P)).longValue();
            u[i] = (P - sum) % P * by % P;
        }
        return u;
    }

    private static long at(int[] step, int n) {
        long sum = 0;
        for (int i = step.length - 1; i >= 0; i--) {
            sum = ((sum * n + step[i]) % P + P) % P;
        }
        return sum;
    }

    /** With so many numbers the order is guessed, with one less nothing (or another order). */
    private static void fewest(String what, int count, int[][] steps, int less, long... firsts) {
        SumHouse h = new SumHouse();
        feed(h, numbers(count, steps, firsts));
        Due.due(what + " from " + count, h.guess(0), steps.length - 1);
        for (int m = 0; m < steps.length; m++) {
            for (int i = 0; i <= 8; i++) {
                long want = i < steps[m].length ? steps[m][i] : 0;
                Due.due(what + ": a_" + m + " at n^" + i, h.number(0, 2 + m, i, 0), (want % P + P) % P);
            }
        }
        h.drop(0);
        feed(h, numbers(count - 1, steps, firsts));
        Due.due(what + " from " + (count - 1), h.guess(0), less);
        Due.due("nothing came", h.kind(0), less < 0 ? 0 : 4);
    }

    private static void guessBounds() {
        Due.of(WHERE, "for r = 1, 2, 3, 4, and for each d = 0, 1 .. 8: with (r + 1)(d + 1) + 4 not above N - r");
        fewest("r 1, d 0", 7, new int[][] {{-3}, {1}}, -1, 5);
        fewest("r 1, d 1", 9, new int[][] {{-3, -2}, {7, 1}}, -1, 5);
        fewest("r 1, d 2", 11, new int[][] {{-3, -2, 6}, {7, 3, 1}}, -1, 5);
        fewest("r 1, d 8", 23, new int[][] {{-3, 1, 1, 2, 1, 1, 3, 1, 5}, {7, 3, 1, 1, 5, 1, 2, 2, 1}}, -1, 5);
        fewest("r 2, d 0", 9, new int[][] {{-3}, {5}, {1}}, -1, 5, 8);
        fewest("r 2, d 1", 12, new int[][] {{-3, 1}, {5, 2}, {9, 1}}, -1, 5, 8);
        fewest("r 2, d 8", 33, new int[][] {{-3, 1, 1, 2, 1, 1, 3, 1, 5}, {1, 1, 7}, {9, 0, 0, 3, 0, 0, 0, 0, 1}}, -1, 5, 8);
        fewest("r 3, d 0", 11, new int[][] {{-3}, {5}, {2}, {1}}, -1, 5, 8, 1);
        fewest("r 3, d 8", 43, new int[][] {{-3, 1, 1, 2, 1, 1, 3, 1, 5}, {1, 1, 7}, {2, 0, 1},
            {9, 0, 0, 3, 0, 0, 0, 0, 1}}, -1, 5, 8, 2);
        fewest("r 4, d 0", 13, new int[][] {{-3}, {5}, {2}, {7}, {1}}, -1, 5, 8, 1, 4);
        fewest("r 4, d 1", 18, new int[][] {{-3, 2}, {5, 1}, {2}, {7, 4}, {3, 1}}, -1, 5, 8, 1, 4);
        fewest("r 4, d 8", 53, new int[][] {{-3, 1, 1, 2, 1, 1, 3, 1, 5}, {1, 1, 7}, {2, 0, 1}, {7, 4},
            {9, 0, 0, 3, 0, 0, 0, 0, 1}}, -1, 5, 8, 2, 6);
        SumHouse h = new SumHouse();
        feed(h, numbers(60, new int[][] {{1, 1, 1, 1, 1, 1, 1, 1, 1, 2}, {3, 1, 1, 1, 1, 1, 1, 1, 1, 1}}, 5));
        Due.due("r 1, d 9", h.guess(0), -1);
        feed(h, numbers(60, new int[][] {{1}, {3}, {5}, {2}, {4}, {1}}, 5, 1, 3, 8, 2));
        Due.due("r 5, d 0", h.guess(0), -1);
    }

    private static void guessOrder() {
        Due.of(WHERE, "At the first r and d where there are");
        SumHouse h = new SumHouse();
        // n^2: order 1 with d = 2, order 3 with d = 0, order 2 with d = 1
        long[] squares = new long[30];
        for (int n = 0; n < 30; n++) {
            squares[n] = (long) n * n;
        }
        feed(h, Arrays.copyOf(squares, 11));
        Due.due("from 11 order 1 with d = 2", h.guess(0), 1);
        steps("n^2", h, 0, "0-(n+1)^2", "n^2");
        feed(h, Arrays.copyOf(squares, 10));
        Due.due("from 10 none of order 3 for 8 and 4, 2 for 6 and 4 ..", h.guess(1), -1);
        Due.of(WHERE, "of all of them the one whose LAST of the numbers of a_0 (from n^0 on), a_1 .. a_r that is not 0 stands earliest");
        // 0, 1, 0, 0 ..: n a_0 may be anything with a root 1, and the first is n - 1
        feed(h, 0, 1, 0, 0, 0, 0, 0, 0, 0, 0, 0, 0, 0);
        Due.due("0, 1, 0, 0 ..: a_0 alone", h.guess(1), -1);
        // u(n + 1) = 0 from n = 0 on, with a_0 = 0
        feed(h, 1, 0, 0, 0, 0, 0, 0);
        Due.due("1, 0, 0 ..", h.guess(1), 1);
        steps("1, 0, 0 ..", h, 1, "0", "1");
        // 1, 1, 1 .. at r = 1, d = 0
        feed(h, 1, 1, 1, 1, 1, 1, 1, 1, 1, 1, 1);
        Due.due("1, 1, 1 ..", h.guess(1), 1);
        steps("1, 1, 1 ..", h, 1, "0-1", "1");
        Due.of(WHERE, "whether there are a_0 .. a_r .. not all 0, with the recurrence true for n = 0 .. N - 1 - r");
        feed(h, 1, 2, 4, 8, 16, 32, 65);
        Due.due("the last number is another", h.guess(2), -1);
        feed(h, 2, 2, 4, 8, 16, 32, 64);
        Due.due("the first number is another", h.guess(2), -1);
        feed(h, 1, 2, 4, 8, 16, 32, 64);
        Due.due("none is another", h.guess(2), 1);
    }

    private static void guessesMade() {
        Due.of(WHERE, "without a common divisor, made so that the head of the last a_j that is not 0 is 1");
        SumHouse h = new SumHouse();
        feed(h, numbers(20, new int[][] {{-4, -6}, {5, 3}}, 7));
        Due.due("3 n + 5", h.guess(0), 1);
        steps("a third of it", h, 0, "(0-4-6*n)/3", "n+5/3");
        // (n - 8) (u(n + 1) - u(n)) is 0, but not u(9) - u(8)
        feed(h, 1, 1, 1, 1, 1, 1, 1, 1, 1, 5, 5);
        Due.due("a divisor n - 8", h.guess(0), 1);
        steps("which goes", h, 0, "0-1", "1");
        Due.due("needs 1", h.told(0, 4), 1);
        Due.due("so that it goes on with 1", h.at(0, 10), 1);
        Due.of("Promise 32", "The row guessed from the numbers fed, with as many first numbers of these as it needs: its order");
        feed(h, 3, 1, 4, 5, 9, 14, 23, 37, 60, 97);
        Due.due("u(n) + u(n + 1)", h.guess(1), 2);
        Due.due("needs 2", h.told(1, 4), 2);
        members("3, 1, 4", h, 1, 3, 1, 4, 5, 9, 14, 23, 37, 60, 97, 157);
        Due.due("they are fed still", h.count(2), 10);
        Due.due("it is a row", h.kind(1), 4);
        Due.due("it has all", h.first(1, 5), -1);
    }

    private static void guessNeeds() {
        Due.of("Promise 32", "NONE when there is none, or it needs more than are there");
        // m - n, that is (n - m + 1) u(n) = (n - m) u(n + 1), which needs m + 2: u(m + 1) is free
        SumHouse h = new SumHouse();
        for (int m = 7; m <= 58; m += 17) {
            long[] u = new long[m + 2];
            for (int n = 0; n <= m; n++) {
                u[n] = m - n;
            }
            u[m + 1] = 5;
            feed(h, u);
            Due.due("as many as it needs, " + (m + 2), h.guess(0), 1);
            steps("n - m", h, 0, "0-n+" + (m - 1), "n-" + m);
            Due.due("its needs", h.told(0, 4), m + 2);
            Due.due("all of them", h.at(0, m + 1), 5);
            Due.due("and one more", h.at(0, m + 2), 10);
            feed(h, Arrays.copyOf(u, m + 1));
            Due.due("one less", h.guess(1), -1);
        }
        Due.of(WHERE, "or a_r has more roots m of 0 .. 300 than a row can need for: none");
        long[] u = new long[60];
        for (int n = 0; n < 60; n++) {
            u[n] = 59 - n;
        }
        feed(h, u);
        Due.due("a root 59", h.guess(1), -1);
        for (int n = 0; n < 60; n++) {
            u[n] = 300 - n;
        }
        feed(h, u);
        Due.due("a root 300", h.guess(1), -1);
        for (int n = 0; n < 60; n++) {
            u[n] = 301 - n;
        }
        feed(h, u);
        Due.due("a root 301", h.guess(1), 1);
        Due.due("needs 1", h.told(1, 4), 1);
        Due.due("1 at 300", h.at(1, 300), 1);
    }

    private static void noGuesses() {
        Due.of(WHERE, "If a_r is 0 then .. none");
        SumHouse h = new SumHouse();
        for (int count = 0; count <= 60; count += 6) {
            feed(h, new long[count]);
            Due.due(count + " zeros", h.guess(0), -1);
        }
        feed(h, 0, 0, 0, 0, 0, 0, 0, 0, 1);
        Due.due("the last one is not used for a_0", h.guess(0), -1);
        Due.of("Promise 32", "NONE when there is none");
        Due.due("nothing fed", new SumHouse().guess(0), -1);
        feed(h, 3, 1, 4, 1, 5, 9, 2, 6, 5, 3, 5, 8, 9, 7, 9, 3, 2, 3, 8, 4, 6, 2, 6, 4, 3, 3, 8, 3, 2, 7);
        Due.due("no recurrence", h.guess(0), -1);
        Due.due("nothing came", h.kind(0), 0);
        Due.due("slot 12", h.guess(12), -1);
        Due.due("slot -1", h.guess(-1), -1);
        feed(h, 1, 1, 1, 1, 1, 1, 1);
        Due.due("to slot 12 where there is one", h.guess(12), -1);
        Due.due("to slot 11", h.guess(11), 1);
    }
}
