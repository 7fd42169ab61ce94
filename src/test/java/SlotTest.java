/** Promises 1, 8 to 13 and 36: slots, what is looked at in them, counts. */
public final class SlotTest {
    public static void main(String[] args) {
        fresh();
        kinds();
        degrees();
        numbers();
        tellings();
        factorials();
        counts();
        Due.end();
    }

    private static void fresh() {
        SumHouse h = new SumHouse();
        for (int i = 0; i < 12; i++) {
            Due.due("slot " + i, h.kind(i), 0);
            Due.due("write", h.write(i), -3);
        }
        Due.due("slot 12", h.kind(12), -1);
        Due.due("slot -1", h.kind(-1), -1);
        Due.due("written", h.written(0), -1);
        Due.due("place", h.place(), -1);
        Due.due("root", h.root(0), -1);
        for (int what = 0; what < 6; what++) {
            Due.due("count " + what, h.count(what), 0);
        }
        // slots first, then kinds, then the rest
        Due.due("no slot, no op", h.work(9, 0, 12, 0), -1);
        Due.due("an empty slot, no op", h.work(9, 0, 0, 0), -3);
        Due.read(h, "n", 0);
        Due.due("no op", h.work(9, 0, 0, 0), -1);
        Due.due("no slot to go to", h.work(0, 0, 0, 12), -1);
        Due.due("an empty one goes first", h.work(0, 0, 1, 12), -1);
        Due.due("into its own place", h.work(2, 0, 0, 0), 1);
        Due.due("n n", Due.text(h, 0), "n^2");
        Due.due("below 0 changes nothing", h.change(9, 0, 13, 0), -1);
        Due.due("n n still", Due.text(h, 0), "n^2");
    }

    private static void kinds() {
        SumHouse h = Due.house("n/k", "C(n,k)");
        h.recur(1, 1, 2);
        h.row(2, 3);
        for (int i = 0; i < 4; i++) {
            Due.due("kind", h.kind(i), i + 1);
        }
        for (int i = 3; i >= 0; i--) {
            Due.due("drop", h.drop(i), i + 1);
            Due.due("then empty", h.kind(i), 0);
            Due.due("drop of an empty one", h.drop(i), 0);
        }
        Due.due("drop of slot 12", h.drop(12), -1);
        Due.due("drop of slot -1", h.drop(-1), -1);
    }

    private static void degrees() {
        SumHouse h = Due.house("(n^3*k+k^2)/(n^5+k)", "n^2*k!", "0", "C(n,k)");
        Due.due("numerator in n", h.degree(0, 0, 0), 3);
        Due.due("numerator in k", h.degree(0, 0, 1), 2);
        Due.due("denominator in n", h.degree(0, 1, 0), 5);
        Due.due("denominator in k", h.degree(0, 1, 1), 1);
        Due.due("a term's ratio", h.degree(1, 0, 0), 2);
        Due.due("0", h.degree(2, 0, 0), 0);
        Due.due("which 2", h.degree(0, 2, 0), -1);
        Due.due("which -1", h.degree(0, -1, 0), -1);
        Due.due("way 2", h.degree(0, 0, 2), -1);
        Due.due("an empty slot", h.degree(7, 2, 0), -3);
        h.recur(3, 1, 4);
        h.row(4, 5);
        // R of C(n,k) is k by k - n - 1
        Due.due("a record's R", h.degree(4, 1, 0), 1);
        Due.due("a row", h.degree(5, 0, 0), -3);
        Due.due("slot 12", h.degree(12, 0, 0), -1);
    }

    private static void numbers() {
        SumHouse h = Due.house("(3*n^2*k-5)/(2*n+4*k)", "7*n*k!", "C(n,k)^2");
        // the denominator's head 1: 4 k + 2 n by 4
        Due.due("3/4 at n^2 k", h.number(0, 0, 2, 1), 1610612736L);
        Due.due("at n^0 k^0: -5/4", h.number(0, 0, 0, 0), 1610612734L);
        Due.due("head", h.number(0, 1, 0, 1), 1);
        Due.due("1/2 at n", h.number(0, 1, 1, 0), 1073741824L);
        Due.due("none such", h.number(0, 0, 1, 1), 0);
        Due.due("far off", h.number(0, 0, 25, 0), 0);
        Due.due("far off in k", h.number(0, 0, 0, 13), 0);
        Due.due("below 0", h.number(0, 0, -1, 0), 0);
        Due.due("which -1", h.number(0, -1, 0, 0), -1);
        Due.due("which 2 of a ratio", h.number(0, 2, 0, 0), -3);
        Due.due("a term's ratio", h.number(1, 0, 1, 0), 7);
        Due.due("which 2 of a term", h.number(1, 2, 0, 0), -3);
        Due.due("an empty slot", h.number(9, -1, 0, 0), -3);
        Due.due("slot 12", h.number(12, 0, 0, 0), -1);
        // (n + 1) s(n + 1) = (4 n + 2) s(n)
        h.recur(2, 1, 3);
        h.row(3, 4);
        for (int slot = 3; slot <= 4; slot++) {
            Due.due("a_0 at n", h.number(slot, 2, 1, 0), 2147483643L);
            Due.due("a_0 at 1", h.number(slot, 2, 0, 0), 2147483645L);
            Due.due("a_1 at n", h.number(slot, 3, 1, 0), 1);
            Due.due("a_1 with k", h.number(slot, 3, 1, 1), 0);
            Due.due("a_1 far off", h.number(slot, 3, 25, 0), 0);
            Due.due("no a_2", h.number(slot, 4, 0, 0), -1);
            Due.due("which -1", h.number(slot, -1, 0, 0), -1);
        }
        Due.due("a record's R", h.number(3, 1, 0, 2), 1);
        Due.due("a row has none", h.number(4, 1, 0, 2), -3);
    }

    private static void tellings() {
        SumHouse h = Due.house("2^n*5^(k+1)*C(n,k)", "n", "C(n,k)");
        h.recur(2, 1, 3);
        h.row(3, 4);
        Due.due("X", h.told(0, 0), 2);
        Due.due("Y", h.told(0, 1), 5);
        Due.due("factorials", h.told(0, 2), 3);
        Due.due("a term has no order", h.told(0, 3), -3);
        Due.due("nor needs", h.told(0, 4), -3);
        Due.due("a ratio has no X", h.told(1, 0), -3);
        Due.due("a record's order", h.told(3, 3), 1);
        Due.due("it needs none", h.told(3, 4), -3);
        Due.due("it has no X", h.told(3, 0), -3);
        Due.due("a row's order", h.told(4, 3), 1);
        Due.due("a row's needs", h.told(4, 4), 1);
        Due.due("5 of an empty slot", h.told(9, 5), -1);
        Due.due("-1 of an empty slot", h.told(9, -1), -1);
        Due.due("0 of an empty slot", h.told(9, 0), -3);
        Due.due("slot 12", h.told(12, 0), -1);
    }

    private static void factorials() {
        SumHouse h = Due.house("(n-k)!^2/(n+2)!/k!*(n-k+1)!", "n");
        int[] want = {0, 1, 0, -1, 1, -1, 0, 2, 1, -1, 1, 1, 1, 0, 2, -1};
        for (int i = 0; i < 16; i++) {
            Due.due("factorial " + i / 4 + " " + i % 4, h.factorial(0, i / 4, i % 4), want[i]);
        }
        Due.due("none such", h.factorial(0, 4, 0), 0);
        Due.read(h, "n!*(n+1)!*(n+2)!", 0);
        Due.due("none such any more", h.factorial(0, 3, 1), 0);
        Due.due("place -1", h.factorial(0, -1, 0), 0);
        Due.due("what 4", h.factorial(0, 0, 4), 0);
        Due.due("a ratio has none", h.factorial(1, 0, 0), 0);
        Due.due("an empty slot", h.factorial(9, 0, 0), 0);
        Due.due("slot 12", h.factorial(12, 0, 0), -1);
    }

    private static void counts() {
        SumHouse h = Due.house("(n-1)*(n-2)", "C(n,k)");
        h.recur(1, 1, 2);
        h.recur(1, 1, 3);
        h.feed(1);
        h.feed(2);
        h.feed(3);
        h.roots(0);
        h.write(0);
        h.type(0, 4);
        Due.due("bytes on the tape", h.count(0), 4);
        Due.due("bytes written", h.count(1), "n^2-3*n+2".length());
        Due.due("fed", h.count(2), 3);
        Due.due("roots", h.count(3), 2);
        Due.due("slots", h.count(4), 4);
        Due.due("records", h.count(5), 2);
        Due.due("6", h.count(6), -1);
        Due.due("-1", h.count(-1), -1);
    }
}
