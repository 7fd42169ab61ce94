/** Promises 16 to 18: values, sums of values, quotients. */
public final class ValueTest {
    private static final int P = 2147483647;

    public static void main(String[] args) {
        ratios();
        terms();
        sums();
        quotients();
        Due.end();
    }

    private static void ratios() {
        SumHouse h = Due.house("(n^2+k)/(n-k)", "3");
        Due.due("(16 + 2) / 2", h.value(0, 4, 2), 9);
        Due.due("at n = k", h.value(0, 3, 3), -1);
        Due.due("at n = -1, k = 0", h.value(0, -1, 0), P - 1);
        Due.due("at n = P: 0", h.value(0, P, 1), P - 1);
        Due.due("far off", h.value(1, -2147483648, 2147483647), 3);
        Due.due("an empty slot", h.value(5, 0, 0), -3);
        Due.due("slot 12", h.value(12, 0, 0), -1);
    }

    private static void terms() {
        SumHouse h = Due.house("C(n,k)", "2^n*3^k*(n-k)!", "n!/(k-2)*k", "C(2*n,n)/(n-3)", "(3*n+3*k+50)!/(3*n+3*k+49)!");
        Due.due("C(10, 3)", h.value(0, 10, 3), 120);
        Due.due("C(3, 5)", h.value(0, 3, 5), 0);
        Due.due("C(0, 0)", h.value(0, 0, 0), 1);
        Due.due("C(500, 500)", h.value(0, 500, 500), 1);
        Due.due("n = 501", h.value(0, 501, 0), -1);
        Due.due("k = -1", h.value(0, 5, -1), -1);
        Due.due("k = 501", h.value(0, 5, 501), -1);
        Due.due("n = -P is no whole number of 0 .. 500", h.value(0, -P, 0), -1);
        Due.due("8 * 9 * 1", h.value(1, 3, 2), 72);
        Due.due("a factorial of -1", h.value(1, 2, 3), -1);
        Due.due("a denominator that is 0", h.value(2, 4, 2), -1);
        Due.due("0 times it", h.value(2, 4, 0), 0);
        Due.due("C(8, 4)", h.value(3, 4, 0), 70);
        Due.due("denominator 0 at 3", h.value(3, 3, 0), -1);
        Due.due("the greatest factorials", h.value(4, 500, 500), 3050);
        SumHouse g = Due.house("1/(k-3)/(n-5)!");
        Due.due("a denominator that is 0 goes first", g.value(0, 2, 3), -1);
        Due.due("then 0", g.value(0, 2, 4), 0);
    }

    private static void sums() {
        SumHouse h = Due.house("C(n,k)", "1/(k-4)", "k", "(n-k)!", "0");
        Due.due("2^10", h.sum(0, 10, 0, 10), 1024);
        Due.due("2^10 - 1 - 10", h.sum(0, 10, 2, 500), 1013);
        Due.due("nothing", h.sum(0, 10, 3, 2), 0);
        Due.due("0 + .. + 500", h.sum(2, 0, 0, 500), 125250);
        Due.due("one has none", h.sum(1, 0, 0, 4), -1);
        Due.due("those ahead of it", h.sum(1, 0, 3, 3), P - 1);
        Due.due("a term's that has none", h.sum(3, 3, 0, 4), -1);
        Due.due("6 + 2 + 1 + 1", h.sum(3, 3, 0, 3), 10);
        Due.due("n = 501", h.sum(2, 501, 0, 1), -1);
        Due.due("n = -1", h.sum(2, -1, 0, 1), -1);
        Due.due("high = 501", h.sum(2, 0, 0, 501), -1);
        Due.due("low = -1", h.sum(2, 0, -1, 3), -1);
        Due.due("low = 501 above high", h.sum(2, 0, 501, 0), -1);
        Due.due("0", h.sum(4, 0, 0, 500), 0);
        Due.due("an empty slot", h.sum(7, 0, 0, 0), -3);
        Due.due("slot -1", h.sum(-1, 0, 0, 0), -1);
    }

    private static void quotient(String text, int way, String want) {
        SumHouse h = Due.house(text);
        int kind = h.quotient(0, way, 1);
        Due.due("quotient of " + text + " along " + way, kind < 0 ? String.valueOf(kind) : Due.text(h, 1), want);
    }

    private static void quotients() {
        quotient("C(n,k)", 0, "(-n-1)/(k-n-1)");
        quotient("C(n,k)", 1, "(-k+n)/(k+1)");
        quotient("2^n*3^k", 0, "2");
        quotient("2^n*3^k", 1, "3");
        quotient("n/k", 0, "(n+1)/(n)");
        quotient("n/k", 1, "(k)/(k+1)");
        // 1 by (n - 2 k) (n - 2 k - 1), made so that the denominator's head is 1: by 4
        quotient("(n-2*k)!", 1, "(536870912)/(k^2-n*k-1073741823*k+536870912*n^2-536870912*n)");
        quotient("(n-2*k)!", 0, "-2*k+n+1");
        quotient("(2*k)!", 0, "1");
        quotient("(2*k)!^2", 1, "16*k^4+48*k^3+52*k^2+24*k+4");
        quotient("(3*k+n)!^5", 1, "-2");
        SumHouse g = Due.house("(3*k+n)!^4", "(3*k)!^5/(3*k+1)!^5");
        Due.due("12 factors fit", g.quotient(0, 1, 2), 1);
        Due.due("degree in k", g.degree(2, 0, 1), 12);
        Due.due("degree in n", g.degree(2, 0, 0), 12);
        Due.due("(1 2 3)^4", g.value(2, 0, 0), 1296);
        Due.due("15 by 15 of which 10 go", g.quotient(1, 1, 2), 1);
        Due.due("5 above", g.degree(2, 0, 1), 5);
        Due.due("5 below", g.degree(2, 1, 1), 5);
        Due.read(g, "(4/7)^5", 3);
        Due.due("((3 k + 1) / (3 k + 4))^5", g.value(2, 0, 1), g.value(3, 0, 0));
        quotient("0", 0, "-1");
        quotient("n", 2, "-1");
        quotient("n", -1, "-1");
        SumHouse h = Due.house("n");
        Due.due("to slot 12", h.quotient(0, 0, 12), -1);
        Due.due("an empty slot", h.quotient(5, 0, 1), -3);
    }
}
