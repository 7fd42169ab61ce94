/** Promises 19 to 25: forms, closed forms, recurrences for sums and their records. */
public final class SumsTest {
    public static void main(String[] args) {
        forms();
        immodest();
        closed();
        notClosed();
        recurrences();
        recurrenceBounds();
        parts();
        checks();
        pokes();
        holding();
        Due.end();
    }

    private static void form(String text, String a, String b, String c) {
        SumHouse h = Due.house(text);
        String[] want = {a, b, c};
        for (int which = 0; which < 3; which++) {
            int kind = h.form(0, which, 1);
            Due.due("form " + which + " of " + text, kind < 0 ? String.valueOf(kind) : Due.text(h, 1), want[which]);
        }
    }

    private static void forms() {
        form("5", "5", "1", "1");
        form("n/(n+1)", "(n)/(n+1)", "1", "1");
        form("k/(k+1)", "k", "k+1", "1");
        // C(k+1) by C(k) is (k + 1) by k
        form("(k+1)/k", "1", "1", "k");
        form("(k+2)/k", "1", "1", "k^2+k");
        form("2*(k+1)/(n*k)", "(2)/(n)", "1", "k");
        form("(n*k+n)/(n*k+1)", "k+1", "(n*k+1)/(n)", "1");
        form("(n*k+n+1)/(n*k+1)", "1", "1", "(n*k+1)/(n)");
        form("(n-k)/(k+1)", "-k+n", "k+1", "1");
        // 40 is the last shift, for which C would have the degree 40: not modest; 8 is the most
        form("(k+8)/k", "1", "1",
                "k^8+28*k^7+322*k^6+1960*k^5+6769*k^4+13132*k^3+13068*k^2+5040*k");
        form("(k+9)/k", "-2", "-2", "-2");
        form("(k+40)/k", "-2", "-2", "-2");
        form("(k+41)/k", "k+41", "k", "1");
        SumHouse h = Due.house("n!", "0", "k");
        Due.due("form of a term", h.form(0, 0, 3), -3);
        Due.due("form of 0", h.form(1, 0, 3), -1);
        Due.due("which 3", h.form(2, 3, 3), -1);
        Due.due("which -1", h.form(2, -1, 3), -1);
        Due.due("slot 12", h.form(2, 0, 12), -1);
        Due.due("an empty slot", h.form(7, 9, 0), -3);
    }

    private static void immodest() {
        form("k^9", "-2", "-2", "-2");
        form("k^8", "k^8", "1", "1");
        form("n^13*k", "-2", "-2", "-2");
        form("n^12*k", "n^12*k", "1", "1");
        form("k/n^13", "-2", "-2", "-2");
        form("k/n^12", "(k)/(n^12)", "1", "1");
        form("(k+n^12+1)/(k+n^12)", "1", "1", "k+n^12");
        form("(k+n^13+1)/(k+n^13)", "-2", "-2", "-2");
        form("1/(k^9+1)", "-2", "-2", "-2");
        form("(k^9+k)/(k^9+k)*k", "k", "1", "1");
    }

    private static void close(String text, String want) {
        SumHouse h = Due.house(text);
        int kind = h.close(0, 1);
        Due.due("closed form of " + text, kind < 0 ? String.valueOf(kind) : Due.text(h, 1), want);
    }

    private static void closed() {
        close("1", "k");
        close("n", "k");
        // k (k - 1) / 2 is (k - 1) / 2 times k
        close("k", "-1073741823*k+1073741823");
        // k^2 by 2 k + 1
        close("2*k+1", "(-1073741823*k^2)/(k-1073741823)");
        close("k*k!", "(1)/(k)");
        close("2^k", "1");
        close("3^k", "-1073741823");
        close("1/(k*(k+1))", "-k-1");
        close("(-1)^k*C(n,k)", "(-k)/(n)");
        close("(n+k)!/k!", "(k)/(n+1)");
        close("n!*2^n", "k");
        // A (k - n) (k + n), B (k + 1) (k + 2): (g - f) / l is 1, and x = (k - n^2) / (n^4 - n^2)
        close("(-1)^k*(n+k-1)!/(n-k)!/k!/(k+1)!", "(k^3-n^2*k^2+k^2-n^2*k)/(n^4-n^2)");
        // depth 8 by z - d + 1 (g - f has n), and by z - d
        Due.due("C is k^8, d is 1", Due.house("k^9*(n+k-1)!/k!").close(0, 1), 1);
        Due.due("C is k^8, d is 0", Due.house("2^k*k^8").close(0, 1), 1);
        // A k + 1, B k + b + 1: (g - f) / l is b - 1, and x is 1 / (1 - b)
        Due.due("b = 9: depth 8", Due.house("k!/(k+9)!").close(0, 1), 1);
        Due.due("b = 10: depth 9", Due.house("k!/(k+10)!").close(0, 1), -2);
        Due.due("b = 13: depth 12", Due.house("k!/(k+13)!").close(0, 1), -2);
        Due.due("b = 14: 13 does not count", Due.house("k!/(k+14)!").close(0, 1), 1);
    }

    private static void notClosed() {
        close("1/k", "-1");
        close("C(n,k)", "-1");
        close("k!", "-1");
        close("0", "-1");
        // its quotient does not fit
        close("(3*k+n)!^5", "-2");
        // the quotient's form: A has degree 9
        close("(3*k)!^3", "-2");
        // degree 9 and 10 of x: k^7 sums to a polynomial of degree 8
        Due.due("k^7", Due.house("k^7").close(0, 1), 1);
        close("k^8", "-2");
        SumHouse h = Due.house("C(n,k)");
        Due.due("an empty slot", h.close(3, 1), -3);
        Due.due("to slot 12", h.close(0, 12), -1);
        Due.due("to slot 12 where there is one", Due.house("k*k!").close(0, 12), -1);
        h.recur(0, 1, 1);
        Due.due("a record", h.close(1, 2), -3);
    }

    private static void recur(String text, int most, String... want) {
        SumHouse h = Due.house(text);
        int order = h.recur(0, most, 1);
        Due.due("order for " + text, order, want.length - 1);
        for (int i = 0; i < want.length; i++) {
            h.part(1, i, 2);
            Due.due("a_" + i + " for " + text, Due.text(h, 2), want[i]);
        }
        Due.due("it is right", h.check(1, 0), 1);
        Due.due("it holds", h.holds(1, 0, 9, 1, 4), 1);
    }

    private static void recurrences() {
        recur("C(n,k)", 3, "-2", "1");
        recur("C(n,k)^2", 3, "-4*n-2", "n+1");
        recur("k*C(n,k)", 1, "-2*n-2", "n");
        recur("2^k*C(n,k)", 1, "-3", "1");
        recur("C(n,k)*C(n+k,k)", 2, "n+1", "-6*n-9", "n+2");
        // Franel's, and Apery's
        recur("C(n,k)^3", 2, "-8*n^2-16*n-8", "-7*n^2-21*n-16", "n^2+4*n+4");
        recur("C(n,k)^2*C(n+k,k)^2", 2, "n^3+3*n^2+3*n+1", "-34*n^3-153*n^2-231*n-117", "n^3+6*n^2+12*n+8");
        // Dixon's: the middle one is 0
        recur("(-1)^k*C(n,k)^3", 3, "27*n^2+54*n+24", "0", "n^2+4*n+4");
        recur("(-1)^k*C(n,k)", 3, "1");
        recur("k*k!", 0, "1");
        // a term without k in its quotient: x = 0 will do
        recur("1/k", 3, "-1", "1");
        recur("n/k", 3, "-n-1", "n");
        SumHouse h = Due.house("C(n,k)", "1/k");
        h.recur(0, 1, 2);
        h.part(2, -1, 3);
        Due.due("R for C(n,k)", Due.text(h, 3), "(k)/(k-n-1)");
        h.recur(1, 1, 2);
        h.part(2, -1, 3);
        Due.due("R for 1/k", Due.text(h, 3), "0");
    }

    private static void recurrenceBounds() {
        SumHouse h = Due.house("C(n,k)^2*C(n+k,k)", "0", "n", "(n+3*k)!^5", "(3*n+k)!^5", "1/(n+k)");
        Due.due("none of order 1", h.recur(0, 1, 9), -1);
        Due.due("none of order 0", h.recur(0, 0, 9), -1);
        Due.due("order 2", h.recur(0, 2, 9), 2);
        Due.due("of 0", h.recur(1, 1, 9), -1);
        Due.due("up to 4", h.recur(0, 4, 9), -1);
        Due.due("up to -1", h.recur(0, -1, 9), -1);
        Due.due("a quotient along k of degree 15", h.recur(3, 0, 9), -2);
        Due.due("s_1 of degree 15 does not matter for order 0", h.recur(4, 0, 9) == -2 ? 0 : 1, 1);
        Due.due("but for order 1", h.recur(4, 1, 9), -2);
        Due.due("an empty slot", h.recur(8, 1, 9), -3);
        Due.due("to slot 12", h.recur(0, 1, 12), -1);
        Due.due("9 is a record still", h.kind(9), 3);
        Due.due("for an empty slot nothing is looked at before", h.recur(8, 9, 9), -3);
    }

    private static void parts() {
        SumHouse h = Due.house("C(n,k)^2");
        h.recur(0, 1, 1);
        h.row(1, 2);
        Due.due("a_0", h.part(1, 0, 3), 1);
        Due.due("4 n + 2", Due.text(h, 3), "-4*n-2");
        Due.due("R", h.part(1, -1, 3), 1);
        Due.due("of degree 3 above", h.degree(3, 0, 1), 3);
        Due.due("no a_2", h.part(1, 2, 3), -1);
        Due.due("no -2", h.part(1, -2, 3), -1);
        Due.due("a row's a_1", h.part(2, 1, 3), 1);
        Due.due("n + 1", Due.text(h, 3), "n+1");
        Due.due("a row has no R", h.part(2, -1, 3), -1);
        Due.due("a term has no parts", h.part(0, 0, 3), -3);
        Due.due("nor an empty slot", h.part(9, 7, 3), -3);
        Due.due("to slot 12", h.part(1, 0, 12), -1);
        Due.due("a part of itself", h.part(1, 1, 1), 1);
        Due.due("in its own place", Due.text(h, 1), "n+1");
    }

    private static void checks() {
        SumHouse h = Due.house("C(n,k)", "n*C(n,k)", "0", "5*C(n,k)", "(3*n+k)!^5", "(n+3*k)!^5", "k");
        h.recur(0, 1, 7);
        Due.due("right", h.check(7, 0), 1);
        Due.due("right for a multiple", h.check(7, 3), 1);
        Due.due("wrong for another term", h.check(7, 1), 0);
        Due.due("wrong for a ratio", h.check(7, 6), 0);
        Due.due("for 0", h.check(7, 2), -1);
        Due.due("s_1 does not fit", h.check(7, 4), -2);
        Due.due("the quotient does not fit", h.check(7, 5), -2);
        Due.due("an empty slot", h.check(7, 9), -3);
        Due.due("no record", h.check(0, 0), -3);
        Due.due("slot 12", h.check(7, 12), -1);
    }

    private static void pokes() {
        SumHouse h = Due.house("C(n,k)", "2*C(n,k)");
        h.recur(0, 1, 2);
        Due.due("what a_0 was", h.poke(2, 0, 0, 0, -3), 2147483645L);
        Due.due("it is wrong now", h.check(2, 0), 0);
        Due.due("what it is", h.poke(2, 0, 0, 0, -2), 2147483644L);
        Due.due("right again", h.check(2, 0), 1);
        Due.due("n^24 of a_1", h.poke(2, 1, 24, 0, 1), 0);
        Due.due("stands", h.number(2, 3, 24, 0), 1);
        Due.due("and back", h.poke(2, 1, 24, 0, 0), 1);
        Due.due("right again", h.check(2, 0), 1);
        // R = k by k - n - 1: its numerator becomes k - n - 1
        Due.due("R at 1", h.poke(2, -1, 0, 0, -1), 0);
        Due.due("R at n", h.poke(2, -1, 1, 0, -1), 0);
        Due.due("in lowest terms: numerator", h.degree(2, 0, 1), 0);
        Due.due("in lowest terms: denominator", h.degree(2, 1, 1), 0);
        Due.due("its number", h.number(2, 0, 0, 0), 1);
        Due.due("1 to 0", h.poke(2, -1, 0, 0, 0), 1);
        h.part(2, -1, 3);
        Due.due("R is 0", Due.text(h, 3), "0");
        Due.due("no a_2", h.poke(2, 2, 0, 0, 1), -1);
        Due.due("no -2", h.poke(2, -2, 0, 0, 1), -1);
        Due.due("n^25", h.poke(2, 0, 25, 0, 1), -1);
        Due.due("n^-1", h.poke(2, 0, -1, 0, 1), -1);
        Due.due("k of an a_m", h.poke(2, 0, 0, 1, 1), -1);
        Due.due("k^13 of R", h.poke(2, -1, 0, 13, 1), -1);
        Due.due("k^12 of R", h.poke(2, -1, 24, 12, 1), 0);
        Due.due("stands", h.number(2, 0, 24, 12), 1);
        Due.due("degree in n", h.degree(2, 0, 0), 24);
        Due.due("degree in k", h.degree(2, 0, 1), 12);
        Due.due("a term", h.poke(0, 0, 0, 0, 1), -3);
        Due.due("slot 12", h.poke(12, 0, 0, 0, 1), -1);
        // the a_m stay as they are, with a common divisor
        h.recur(0, 1, 2);
        h.poke(2, 0, 0, 0, 4);
        h.poke(2, 1, 0, 0, 2);
        Due.due("4", h.number(2, 2, 0, 0), 4);
        Due.due("2", h.number(2, 3, 0, 0), 2);
    }

    private static void holding() {
        SumHouse h = Due.house("C(n,k)", "0", "1/(k-7)", "k");
        h.recur(0, 1, 4);
        Due.due("k = 0 .. 3 at n = 10", h.holds(4, 0, 10, 0, 3), 1);
        Due.due("an empty sum", h.holds(4, 0, 10, 3, 2), 1);
        Due.due("an empty sum, but R's places differ", h.holds(4, 0, 10, 6, 2), 0);
        Due.due("R has none at k = n + 1", h.holds(4, 0, 10, 0, 10), -1);
        Due.due("n + 1 = 501", h.holds(4, 0, 500, 0, 3), -1);
        Due.due("n + 1 = 500", h.holds(4, 0, 499, 0, 3), 1);
        Due.due("high + 1 = 501", h.holds(4, 0, 20, 30, 500), -1);
        Due.due("high + 1 = 500", h.holds(4, 0, 20, 30, 499), 1);
        Due.due("low = -1", h.holds(4, 0, 20, -1, 3), -1);
        Due.due("n = -1", h.holds(4, 0, -1, 0, 3), -1);
        Due.due("0", h.holds(4, 1, 10, 0, 3), 1);
        Due.due("a value that is none", h.holds(4, 2, 10, 5, 9), -1);
        Due.due("it does not hold for k", h.holds(4, 3, 10, 0, 3), 0);
        Due.due("no record", h.holds(0, 0, 10, 0, 3), -3);
        Due.due("a record for no term", h.holds(4, 4, 10, 0, 3), -3);
        Due.due("slot 12", h.holds(4, 12, 10, 0, 3), -1);
        h.poke(4, 0, 0, 0, -3);
        Due.due("it does not hold any more", h.holds(4, 0, 10, 0, 3), 0);
    }
}
