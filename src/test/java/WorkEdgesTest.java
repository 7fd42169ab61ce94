/** Promises 14 and 15: work and change, on both sides of the bounds that they name. */
public final class WorkEdgesTest {
    private static final int P = 2147483647;

    public static void main(String[] args) {
        sums();
        products();
        divisors();
        resultants();
        resultantBounds();
        otherOps();
        moved();
        numbersInstead();
        derivatives();
        turned();
        parts();
        powers();
        instead();
        movedTerms();
        powersOfTerms();
        otherChanges();
        Due.end();
    }

    /** What comes of op on a and b. */
    private static void work(int op, String a, String b, String want) {
        SumHouse h = Due.house(a, b);
        int kind = h.work(op, 0, 1, 2);
        Due.same("work " + op + " of " + a + " and " + b, h, 2, want);
        Due.due("work " + op + " of " + a + " and " + b, kind, h.kind(2));
    }

    private static void refuse(int op, String a, String b, int want) {
        SumHouse h = Due.house(a, b);
        Due.due("work " + op + " of " + a + " and " + b, h.work(op, 0, 1, 2), want);
        Due.due("then", h.kind(2), 0);
    }

    private static void sums() {
        Due.of("Promise 14", "op = 0 their sum, 1 difference (of ratios alone: KIND)");
        work(0, "1/n", "1/k", "(n+k)/(n*k)");
        work(1, "1/n", "1/k", "(k-n)/(n*k)");
        work(0, "n", "-n", "0");
        work(1, "n/(n+k)", "-k/(n+k)", "1");
        work(1, "0", "n", "-n");
        work(0, "0", "0", "0");
        for (int op = 0; op <= 1; op++) {
            refuse(op, "n!", "n", -3);
            refuse(op, "n", "n!", -3);
            refuse(op, "n!", "n!", -3);
            refuse(op, "2^n", "0", -3);
        }
        Due.of("Promise 14", "LARGE");
        work(0, "1/(n^12+k)", "1/(n^12-k)", "2*n^12/(n^24-k^2)");
        refuse(0, "1/(n^12+k)", "1/(n^13-k)", -2);
        refuse(1, "1/(n^12+k)", "1/(n^13-k)", -2);
        work(1, "1/(k^6+n)", "1/(k^6-n)", "-2*n/(k^12-n^2)");
        refuse(1, "1/(k^6+n)", "1/(k^7-n)", -2);
        work(0, "n^24*k^12", "1", "n^24*k^12+1");
        refuse(0, "n^24", "1/n", -2);
        work(0, "n^23", "1/n", "(n^24+1)/n");
        refuse(0, "k^12", "1/k", -2);
        work(0, "k^11", "1/k", "(k^12+1)/k");
        work(0, "1/(n+1)^24/(k+1)^12", "(n^24*k^12-1)/(n+1)^24/(k+1)^12", "n^24*k^12/((n+1)^24*(k+1)^12)");
    }

    private static void products() {
        Due.of("Promise 14", "2 product, 3 quotient");
        work(2, "n/k", "k/n", "1");
        work(2, "0", "n!", "0");
        work(2, "n!", "0", "0");
        work(2, "(n+1)/k", "n!", "(n+1)/k*n!");
        work(2, "2^n*n!", "(1/2)^n/n!", "1");
        work(3, "n!", "n!", "1");
        work(3, "n", "n!", "n/n!");
        work(3, "0", "2^n", "0");
        work(3, "2^n", "3^n", "(2/3)^n");
        work(3, "n^24", "n^24", "1");
        Due.of("Promise 14", "NONE for other ops, a quotient by 0; LARGE");
        refuse(3, "n", "0", -1);
        refuse(3, "n!", "0", -1);
        refuse(3, "0", "0", -1);
        work(2, "n!^6", "k!^6", "n!^6*k!^6");
        refuse(2, "n!^6", "k!^7", -2);
        work(2, "n!^6", "1/k!^6", "n!^6/k!^6");
        refuse(3, "n!^6", "k!^7", -2);
        work(3, "n!^12", "n!^12", "1");
        work(2, "n!^12", "k!^6/n!^6", "n!^6*k!^6");
        work(3, "n^12", "1/n^12", "n^24");
        refuse(3, "n^12", "1/n^13", -2);
        refuse(2, "n^12*n!", "n^13*k!", -2);
    }

    private static void divisors() {
        Due.of("Promise 14", "4 the greatest common divisor, head 1 (0 of two 0)");
        work(4, "0", "0", "0");
        work(4, "0", "5*n+5", "n+1");
        work(4, "3*k*n+6", "0", "n*k+2");
        work(4, "0", "7", "1");
        work(4, "4", "6", "1");
        work(4, "4*n", "6", "1");
        work(4, "2*n^2-2", "6*n-6", "n-1");
        work(4, "n^2-k^2", "(n+k)*n", "n+k");
        work(4, "3*n*(n*k+1)^2", "5*n^2*(n*k+1)", "n*(n*k+1)");
        work(4, "k^12*n^24", "k^12*n^24", "k^12*n^24");
        work(4, "(2*n+3*k)^12", "(2*n+3*k)^5*(n+k)", "((2*n+3*k)/3)^5");
        work(4, "k^2+1", "n^2+1", "1");
        work(4, "(n+k)*(n-k)", "(n+k+1)*(n-k+1)", "1");
        for (int op = 4; op <= 6; op++) {
            refuse(op, "1/n", "n", -3);
            refuse(op, "n", "1/k", -3);
            refuse(op, "n!", "n", -3);
            refuse(op, "n", "2^k", -3);
        }
    }

    private static void resultants() {
        Due.of("Promise 14", "(the determinant of the rows of a, then of b, heads first");
        work(5, "k-1", "k-2", "0-1");
        work(5, "k-2", "k-1", "1");
        work(5, "2*k+n", "3*k+5*n", "10*n-3*n");
        work(6, "2*n+k", "3*n+5*k", "7*k");
        work(5, "n*k^2+3*k+5", "2*k+n", "n^3-6*n+20");
        work(5, "2*k+n", "n*k^2+3*k+5", "n^3-6*n+20");
        // a^3 ((1 0 0 n) (1 2) ..): det of k^3 + n and k + 2 is n - 8
        work(5, "k^3+n", "k+2", "-n+8");
        work(5, "k+2", "k^3+n", "n-8");
        work(5, "k^3+n", "2", "8");
        work(5, "2", "k^3+n", "8");
        work(5, "k^2+n", "n+1", "(n+1)^2");
        work(6, "k+1", "n^2+k", "(k+1)^2");
        work(5, "(k-1)*(k-n)", "(k-n)*(k+7)", "0");
        work(5, "k^12-n", "k^12-2", "(n-2)^12");
        work(6, "n^12-k", "n^12-2", "(k-2)^12");
        work(6, "n^12-1", "n-k", "k^12-1");
        Due.of("Promise 14", "0 if one is 0, ahead of all; 1 if both have degree 0 there)");
        for (int op = 5; op <= 6; op++) {
            work(op, "0", "7", "0");
            work(op, "7", "0", "0");
            work(op, "0", "0", "0");
            work(op, "0", "n*k", "0");
            work(op, "n*k", "0", "0");
            work(op, "7", "8", "1");
        }
        work(5, "n", "n", "1");
        work(5, "n+1", "n^2", "1");
        work(6, "k", "k", "1");
        work(6, "n", "n", "0");
        work(5, "k", "k", "0");
    }

    private static void resultantBounds() {
        Due.of("Promise 14", "LARGE");
        work(5, "n^12*k+1", "k+n^12", "n^24-1");
        refuse(5, "n^12*k+1", "k+n^13", -2);
        work(6, "k^6*n+1", "n+k^6", "k^12-1");
        refuse(6, "k^6*n+1", "n+k^7", -2);
        work(5, "k+n^24", "k", "0-n^24");
        work(5, "k^12", "n^2", "n^24");
        refuse(5, "k^12", "n^3", -2);
        work(6, "n^12", "k", "k^12");
        refuse(6, "n^13", "k", -2);
        work(6, "n^24", "2", "2^24");
        work(6, "n^24-1", "n-2", "2^24-1");
        refuse(6, "n^24-1", "n-k", -2);
        // 36 rows of 36 numbers
        work(6, "n^24+n", "n^12+1", "2");
        work(6, "n^24+2", "n^12+1", "3^12");
    }

    private static void otherOps() {
        Due.of("Promise 14", "NONE for other ops");
        refuse(7, "n", "n", -1);
        refuse(-1, "n", "n", -1);
        refuse(Integer.MAX_VALUE, "n!", "0", -1);
        refuse(Integer.MIN_VALUE, "n", "n!", -1);
    }

    private static void change(int op, String a, int v, String want) {
        SumHouse h = Due.house(a);
        int kind = h.change(op, 0, v, 1);
        Due.same("change " + op + " of " + a + " by " + v, h, 1, want);
        Due.due("change " + op + " of " + a + " by " + v, kind, h.kind(1));
    }

    private static void deny(int op, String a, int v, int want) {
        SumHouse h = Due.house(a);
        Due.due("change " + op + " of " + a + " by " + v, h.change(op, 0, v, 1), want);
        Due.due("then", h.kind(1), 0);
    }

    private static void moved() {
        Due.of("Promise 15", "One ratio: op = 0 n + v for n, 1 k + v for k");
        change(0, "n^2*k/(n-1)", 1, "(n+1)^2*k/n");
        change(0, "n^24*k^12", -1, "(n-1)^24*k^12");
        change(0, "k", 5, "k");
        change(0, "n", 0, "n");
        change(0, "n", P, "n");
        change(0, "n", Integer.MIN_VALUE, "n-1");
        change(0, "n^2", 1073741824, "(n+1073741824)^2");
        change(1, "(n+k)/(n-k)", 2, "(n+k+2)/(n-k-2)");
        change(1, "n^24*k^12", -3, "n^24*(k-3)^12");
        change(1, "1/(2*n*k+1)", 3, "1/(2*n*k+6*n+1)");
        change(1, "0", 7, "0");
    }

    private static void numbersInstead() {
        Due.of("Promise 15", "2 the number v for n, 3 for k");
        change(2, "n^2+k", 3, "9+k");
        change(2, "(n+k)/(n-k)", 0, "0-1");
        change(2, "(n-3)*k/(n+k)", 3, "0");
        change(2, "n", -1, "0-1");
        change(2, "n", P, "0");
        change(3, "n^2+k", 3, "n^2+3");
        change(3, "(n^2-k^2)/(n+k+1)", 1, "(n^2-1)/(n+2)");
        change(3, "(n-1)/(n*k-1)", 1, "1");
        change(3, "7", 1, "7");
        // a part that goes takes its degree along
        change(2, "(n-1)*k^3+k", 1, "k");
        change(3, "(k-1)*n^3+n", 1, "n");
        change(2, "1/((n-1)*k^3+k)", 1, "1/k");
        change(3, "1/((k-1)*n^3+n)", 1, "1/n");
        change(2, "(n-1)*k^3+k*n-k", 1, "0");
        Due.of("Promise 15", "where a denominator becomes 0");
        deny(2, "k/(n-3)", 3, -1);
        deny(2, "1/(n*k-3*k+n-3)", 3, -1);
        change(2, "k/(n-3)", 4, "k");
        deny(3, "n/k", 0, -1);
        deny(3, "n/k", P, -1);
        deny(3, "(n-1)/(k+2)", -2, -1);
        change(3, "(n-1)/(k+2)", -1, "n-1");
        change(2, "1/(n-k)", 3, "1/(3-k)");
    }

    private static void derivatives() {
        Due.of("Promise 15", "4 its derivative along n, 5 along k");
        change(4, "n^3*k+n+k", 0, "3*n^2*k+1");
        change(5, "n*k^3+n+k", 0, "3*n*k^2+1");
        change(4, "k", 9, "0");
        change(5, "n", 9, "0");
        change(4, "7", 0, "0");
        change(4, "1/n", 0, "(0-1)/n^2");
        change(5, "n/(k+n)", 0, "(0-n)/(n+k)^2");
        change(4, "n/(k+n)", 0, "k/(n+k)^2");
        change(4, "n^24", 0, "24*n^23");
        change(5, "k^12", 0, "12*k^11");
        change(4, "1/n^23", 0, "(0-23)/n^24");
        deny(4, "1/n^24", 0, -2);
        change(5, "1/k^11", 0, "(0-11)/k^12");
        deny(5, "1/k^12", 0, -2);
        change(4, "1/(n^12+k)", 0, "(0-12)*n^11/(n^12+k)^2");
        deny(4, "1/(n^13+k)", 0, -2);
        deny(5, "1/(k^7+n)", 0, -2);
        change(5, "1/(k^6+n)", 0, "(0-6)*k^5/(k^6+n)^2");
    }

    private static void turned() {
        Due.of("Promise 15", "6 n for k and k for n");
        change(6, "n^2/(k+3)", 0, "k^2/(n+3)");
        change(6, "n^12*k^12", 5, "n^12*k^12");
        change(6, "(n+2*k)/(n-k^5)", 0, "(k+2*n)/(k-n^5)");
        deny(6, "n^13", 0, -2);
        deny(6, "1/(n^13+k)", 0, -2);
        change(6, "n^12+k", 0, "k^12+n");
        change(6, "0", 0, "0");
        change(6, "1/(2*n+k)", 0, "1/(2*k+n)");
    }

    private static void parts() {
        Due.of("Promise 15", "7 its numerator, 8 its denominator");
        change(7, "(2*n)/(3*k+6)", 0, "(2/3)*n");
        change(8, "(2*n)/(3*k+6)", 0, "k+2");
        change(7, "0", 0, "0");
        change(8, "0", 0, "1");
        change(8, "n^24*k^12", 0, "1");
        change(8, "1/(n^24+k^12)", 0, "n^24+k^12");
    }

    private static void powers() {
        Due.of("Promise 15", "9 itself to the power v (-12 .. 12)");
        change(9, "n", 12, "n^12");
        deny(9, "n", 13, -1);
        change(9, "n", -12, "1/n^12");
        deny(9, "n", -13, -1);
        deny(9, "1", P, -1);
        deny(9, "1", Integer.MIN_VALUE, -1);
        change(9, "2", 12, "4096");
        change(9, "2/n", 0, "1");
        change(9, "n/k", 1, "n/k");
        change(9, "2*n/k", -1, "k/(2*n)");
        change(9, "(n+1)/(k+1)", -3, "((k+1)/(n+1))^3");
        Due.of("Promise 15", "0 to a power below 0");
        change(9, "0", 0, "1");
        change(9, "0", 1, "0");
        change(9, "0", 12, "0");
        deny(9, "0", -1, -1);
        deny(9, "0", -12, -1);
        deny(9, "0", 13, -1);
        Due.of("Promise 15", "LARGE");
        change(9, "n^2*k", 12, "n^24*k^12");
        deny(9, "n^3", 9, -2);
        change(9, "n^3", 8, "n^24");
        deny(9, "k^2", 7, -2);
        change(9, "k^2", -6, "1/k^12");
        deny(9, "1/k^2", 7, -2);
        deny(9, "1/(n^5+1)", 5, -2);
        deny(9, "n^5+1", -5, -2);
    }

    private static void instead() {
        Due.of("Promise 15", "10 the number v instead (any slot, also an empty one)");
        change(10, "n!", 7, "7");
        change(10, "n", 0, "0");
        change(10, "n/k", -1, "0-1");
        change(10, "n", P, "0");
        change(10, "n", Integer.MIN_VALUE, "0-1");
        SumHouse h = SlotsEdgesTest.filled();
        for (int slot = 0; slot <= 4; slot++) {
            Due.due("of slot " + slot, h.change(10, slot, slot, 11), 1);
            Due.due("the number", h.number(11, 0, 0, 0), slot);
            Due.due("slot " + slot + " stays", h.kind(slot), slot);
        }
        Due.due("in its own place", h.change(10, 4, 9, 4), 1);
        Due.due("9", Due.text(h, 4), "9");
    }

    private static void movedTerms() {
        Due.of("Promise 15", "A term: 0, 1 (v as a small one; X^v or Y^v goes into the ratio, c becomes c + a v or c + b v)");
        change(0, "n*2^n*3^k*n!", 2, "(n+2)*4*2^n*3^k*(n+2)!");
        change(1, "k*2^n*3^k*k!", 2, "(k+2)*9*2^n*3^k*(k+2)!");
        change(0, "2^n*k!", -1, "(1/2)*2^n*k!");
        change(1, "3^k*n!", -2, "(1/9)*3^k*n!");
        change(0, "(3*n-2*k+1)!/(k-n)!", 4, "(3*n-2*k+13)!/(k-n-4)!");
        change(1, "(3*n-2*k+1)!/(k-n)!", 4, "(3*n-2*k-7)!/(k-n+4)!");
        change(0, "n!", 2147483646, "(n-1)!");
        change(0, "n!", Integer.MIN_VALUE, "(n-1)!");
        change(0, "n!", P, "n!");
        change(1, "n!", 1000000, "n!");
        // 2^31 is 1, and 31 divides 1073741823, which is -1073741824
        change(0, "2^n", 1073741823, "2^n");
        change(0, "2^n", 1073741824, "2^n");
        change(0, "2^n", -1073741824, "2^n");
        change(0, "2^n", -1073741823, "2^n");
        change(0, "2^n", 1073741822, "2^n/2");
        change(0, "2^n", 1073741825, "2*2^n");
        Due.of("Promise 15", "LARGE (also a c beyond -50 .. 50)");
        change(0, "n!", 50, "(n+50)!");
        deny(0, "n!", 51, -2);
        change(0, "n!", -50, "(n-50)!");
        deny(0, "n!", -51, -2);
        change(0, "(3*n+2)!", 16, "(3*n+50)!");
        deny(0, "(3*n+3)!", 16, -2);
        change(0, "(2-3*n)!", -16, "(50-3*n)!");
        deny(0, "(3-3*n)!", -16, -2);
        change(1, "1/(3*k-2)!", -16, "1/(3*k-50)!");
        deny(1, "1/(3*k-3)!", -16, -2);
        change(1, "(n-2*k)!", 25, "(n-2*k-50)!");
        deny(1, "(n-2*k)!", 26, -2);
        deny(0, "(3*n)!", 1073741823, -2);
        deny(0, "n!*(n-50)!", -1, -2);
        change(0, "n!*(n-50)!", 50, "(n+50)!*n!");
        change(0, "k!", 51, "k!");
    }

    private static void powersOfTerms() {
        Due.of("Promise 15", "A term: .. 9");
        change(9, "n*2^n/k!", 3, "n^3*8^n/k!^3");
        change(9, "n*2^n/k!", -2, "1/n^2*(1/4)^n*k!^2");
        change(9, "n!", 0, "1");
        change(9, "n!", 12, "n!^12");
        deny(9, "n!", 13, -1);
        change(9, "n!", -12, "1/n!^12");
        deny(9, "n!", -13, -1);
        deny(9, "n!^2", 7, -2);
        change(9, "n!^2", 6, "n!^12");
        deny(9, "n!*k!*(n+k)!", 5, -2);
        change(9, "n!*k!/(n+k)!", 4, "n!^4*k!^4/(n+k)!^4");
        deny(9, "n^3*n!", 9, -2);
        change(9, "n^3*2^n", 8, "n^24*256^n");
        change(9, "(-1)^k", 2, "1");
        change(9, "2^n*3^k", 3, "8^n*27^k");
        change(9, "2^n*3^k", -2, "(1/4)^n*(1/9)^k");
        change(9, "n/k*3^k", 1, "n/k*3^k");
        Due.of("Promise 15", "11 its ratio (of a ratio KIND; 2 .. 8 of a term KIND)");
        change(11, "n/k*2^n", 0, "n/k");
        change(11, "C(n,k)", 5, "1");
        deny(11, "n", 0, -3);
        deny(11, "0", 0, -3);
        for (int op = 2; op <= 8; op++) {
            deny(op, "n!", 1, -3);
            deny(op, "2^k", 1, -3);
        }
    }

    private static void otherChanges() {
        Due.of("Promise 15", "NONE for other ops");
        for (int op : new int[] {-1, 12, Integer.MAX_VALUE, Integer.MIN_VALUE}) {
            deny(op, "n", 1, -1);
            deny(op, "n!", 1, -1);
            deny(op, "0", 99, -1);
        }
    }
}
