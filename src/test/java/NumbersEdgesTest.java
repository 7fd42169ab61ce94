/** "Terms", section 1: numbers, polynomials, ratios, on both sides of the bounds that it names. */
public final class NumbersEdgesTest {
    private static final String WHERE = "Terms 1";
    private static final int P = 2147483647;

    public static void main(String[] args) {
        rests();
        arithmetic();
        smalls();
        degrees();
        heads();
        lowestTerms();
        fits();
        Due.end();
    }

    private static void rests() {
        Due.of(WHERE, "an int v told to a call stands for its rest by P (of one below 0 that is 0 .. P - 1, too)");
        int[] told = {0, 1, P - 1, P, -1, 1 - P, -P, -P - 1, 1073741824, -1073741824};
        int[] rests = {0, 1, P - 1, 0, P - 1, 1, 0, P - 1, 1073741824, 1073741823};
        for (int i = 0; i < told.length; i++) {
            rest(told[i], rests[i]);
        }
    }

    private static void rest(int v, int rest) {
        SumHouse h = Due.house("n", "k", "n*k");
        h.change(10, 0, v, 3);
        Due.due("change 10 by " + v, h.number(3, 0, 0, 0), rest);
        h.change(0, 0, v, 3);
        Due.due("n + v by " + v, h.number(3, 0, 0, 0), rest);
        h.change(1, 1, v, 3);
        Due.due("k + v by " + v, h.number(3, 0, 0, 0), rest);
        h.change(2, 2, v, 3);
        Due.due("v for n by " + v, h.number(3, 0, 0, 1), rest);
        h.change(3, 2, v, 3);
        Due.due("v for k by " + v, h.number(3, 0, 1, 0), rest);
        Due.due("the value at n = " + v, h.value(0, v, 5), rest);
        Due.due("the value at k = " + v, h.value(1, 5, v), rest);
        RowsTest.row(h, 4, new int[][] {{-1}, {1}}, v);
        Due.due("first " + v, h.at(4, 0), rest);
        h.poke(10, 0, 2, 0, v);
        Due.due("poke of a_0 by " + v, h.number(10, 2, 2, 0), rest);
        h.poke(10, -1, 2, 2, v);
        Due.due("poke of R by " + v, h.poke(10, -1, 2, 2, 0), rest);
        for (int i = 0; i < 20; i++) {
            h.feed(i % 2 == 0 ? v : 7);
        }
        Due.due("a guess of " + v, h.guess(5), 2);
        Due.due("feed " + v, h.at(5, 18), rest);
    }

    private static void arithmetic() {
        Due.of(WHERE, "NUMBERS are 0 .. P - 1 with sums, products, quotients modulo P");
        SumHouse h = Due.house("2147483646", "1", "2", "1073741824", "0");
        h.work(0, 0, 1, 5);
        Due.due("P - 1 + 1", h.number(5, 0, 0, 0), 0);
        h.work(0, 0, 0, 5);
        Due.due("P - 1 + P - 1", h.number(5, 0, 0, 0), P - 2);
        h.work(1, 4, 1, 5);
        Due.due("0 - 1", h.number(5, 0, 0, 0), P - 1);
        h.work(2, 0, 0, 5);
        Due.due("(P - 1) (P - 1)", h.number(5, 0, 0, 0), 1);
        h.work(2, 2, 3, 5);
        Due.due("2 times 2^30", h.number(5, 0, 0, 0), 1);
        h.work(3, 1, 2, 5);
        Due.due("1 by 2", h.number(5, 0, 0, 0), 1073741824);
        h.work(3, 2, 0, 5);
        Due.due("2 by P - 1", h.number(5, 0, 0, 0), P - 2);
    }

    private static void smalls() {
        Due.of(WHERE, "SMALL is a number as an int: itself up to 1073741823, else less P");
        Due.due("the greatest", Due.plain("1073741823"), "1073741823");
        Due.due("one more", Due.plain("1073741824"), "-1073741823");
        Due.due("P - 1", Due.plain("2147483646"), "-1");
        Due.due("P", Due.plain("2147483647"), "0");
        Due.of(WHERE, "Calls answer numbers as 0 .. P - 1");
        SumHouse h = Due.house("1073741824*n-1", "(-1)^k");
        Due.due("number", h.number(0, 0, 1, 0), 1073741824);
        Due.due("number -1", h.number(0, 0, 0, 0), P - 1);
        Due.due("value", h.value(0, 1, 0), 1073741823);
        Due.due("value -1", h.value(0, 0, 0), P - 1);
        Due.due("Y", h.told(1, 1), P - 1);
    }

    private static void degrees() {
        Due.of(WHERE, "Its degrees are the greatest i and the greatest j (0 of the polynomial 0)");
        degree("n^5*k+n^2*k^7", 5, 7);
        degree("n-n", 0, 0);
        degree("8", 0, 0);
        degree("n^24+k^12", 24, 12);
        degree("n*k-n*k+k", 0, 1);
    }

    private static void degree(String text, int inN, int inK) {
        SumHouse h = Due.house(text);
        Due.due("degree in n of " + text, h.degree(0, 0, 0), inN);
        Due.due("degree in k of " + text, h.degree(0, 0, 1), inK);
    }

    private static void heads() {
        Due.of(WHERE, "Its HEAD is the number at the greatest j, and there at the greatest i");
        Due.of(WHERE, "the denominator's head being 1");
        head("1/(2*k+n^9)", 0, 1);
        head("1/(3*n^2*k+5*n^7)", 2, 1);
        head("1/(4*n^2*k+7*n^5*k+n^9)", 5, 1);
        head("1/(7*n^3+2*n)", 3, 0);
        head("n/(0-5)", 0, 0);
    }

    private static void head(String text, int i, int j) {
        SumHouse h = Due.house(text);
        Due.due("the head of what is below in " + text, h.number(0, 1, i, j), 1);
    }

    private static void lowestTerms() {
        Due.of(WHERE, "A RATIO is a numerator by a denominator, without a common divisor");
        Due.due("n + k goes", Due.plain("(n^2-k^2)/(n+k)"), "-k+n");
        Due.due("n - 1 goes, which has no k", Due.plain("(n-1)*k/((n-1)*(k+1))"), "(k)/(k+1)");
        Due.due("k - 1 goes, which has no n", Due.plain("(k-1)*n/((k-1)*(n+1))"), "(n)/(n+1)");
        Due.due("one twice above, three times below", Due.plain("(n*k+1)^2/(n*k+1)^3"), "(1)/(n*k+1)");
        Due.due("numbers go", Due.plain("(6*n+6)/(3*k+3)"), Due.plain("(2*n+2)/(k+1)"));
        Due.of(WHERE, "(0 is 0 by 1)");
        SumHouse h = Due.house("0/(n+k)", "(n-n)/n^24");
        for (int slot = 0; slot < 2; slot++) {
            Due.due("0", Due.text(h, slot), "0");
            Due.due("degree of what is below it in n", h.degree(slot, 1, 0), 0);
            Due.due("degree of what is below it in k", h.degree(slot, 1, 1), 0);
            Due.due("what is below it", h.number(slot, 1, 0, 0), 1);
        }
        Due.of(WHERE, "so equal ones are the same");
        Due.due("two ways", Due.plain("1/n+1/k"), Due.plain("(2*k+2*n)/(2*n*k)"));
        Due.due("a third way", Due.plain("(n+k)^2/(n^2*k+n*k^2)"), Due.plain("1/n+1/k"));
    }

    private static void fits() {
        Due.of(WHERE, "It FITS if its degrees, above and below, are 24 at most in n and 12 at most in k");
        fit("n^12", "n^12", true);
        fit("n^12", "n^13", false);
        fit("k^6", "k^6", true);
        fit("k^6", "k^7", false);
        fit("1/n^12", "1/n^12", true);
        fit("1/n^12", "1/n^13", false);
        fit("1/k^6", "1/k^6", true);
        fit("1/k^6", "1/k^7", false);
        fit("n^24/(k+1)^12", "k^12/(n+1)^24", true);
        fit("n^24/(k+1)^12", "n/(n+1)^24", false);
        fit("n^24/(k+1)^12", "1/(n*(k+1))", false);
        fit("n^24/(k+1)^12", "(k+1)/n", true);
        fit("n^24/k^12", "k^12/n^24", true);
    }

    private static void fit(String a, String b, boolean fits) {
        SumHouse h = Due.house(a, b);
        Due.due(a + " times " + b, h.work(2, 0, 1, 2), fits ? 1 : -2);
    }
}
