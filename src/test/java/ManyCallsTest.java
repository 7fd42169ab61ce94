/** "An object is used for at most 512 calls after it has been made": the last of them is answered as the first. */
public final class ManyCallsTest {
    private interface Call {
        int of(SumHouse house);
    }

    private static final int MOST = 512;
    private static int calls = 0;

    public static void main(String[] args) {
        Due.of("What it is", "An object is used for at most 512 calls after it has been made");
        values();
        sums();
        rows();
        readings();
        faults();
        writing();
        tape();
        Due.end();
    }

    /** The texts, eight bytes a call, in slots from 0 on. */
    private static SumHouse house(String... texts) {
        SumHouse h = new SumHouse();
        calls = 0;
        for (int slot = 0; slot < texts.length; slot++) {
            type(h, texts[slot]);
            Due.due("reading " + texts[slot], h.read(slot) > 0 ? 1 : 0, 1);
            calls++;
        }
        return h;
    }

    private static void type(SumHouse h, String text) {
        for (int i = 0; i < text.length(); i += 8) {
            String part = text.substring(i, Math.min(i + 8, text.length()));
            long bytes = 0;
            for (int l = 0; l < part.length(); l++) {
                bytes = bytes << 8 | part.charAt(l);
            }
            h.type(bytes, part.length());
            calls++;
        }
    }

    private static void always(String what, SumHouse h, int want, Call call) {
        boolean isDue = true;
        while (calls < MOST && isDue) {
            calls++;
            int answer = call.of(h);
            Due.due(what + ", call " + calls, answer, want);
            isDue = answer == want;
        }
    }

    private static void values() {
        SumHouse h = house("(n+1)^9*(k+n)^3/(n+k^2+3)^3", "(n-1)^7*(k-n)^5/(n^2+k+3)^3");
        always("a product", h, 1, x -> x.work(2, 0, 1, 9));
        h = house("(n+1)^9*(k+n)/(n+k^2+3)^2", "(n-1)^7*(k-n)/(n^2+k+3)^2");
        always("a sum", h, 1, x -> x.work(0, 0, 1, 9));
        h = house("(n+1)^12*(k+n)^6*(n*k+1)", "(n-1)^7*(k-n)^5*(n*k+1)");
        always("a divisor", h, 1, x -> x.work(4, 0, 1, 9));
        h = house("k^6+n^2*k^3+1", "n*k^5+n^2*k+7");
        always("a resultant", h, 1, x -> x.work(5, 0, 1, 9));
        h = house("(n^5+k)/(n^7+k^3+1)");
        always("a derivative", h, 1, x -> x.change(4, 0, 0, 9));
        h = house("(n^2+k)/(n+k+1)");
        always("a power", h, 1, x -> x.change(9, 0, -9, 9));
        h = house("2^n*3^k*C(n,k)^3*k");
        always("a quotient", h, 1, x -> x.quotient(0, 1, 9));
        h = house("2^n*3^k*C(n,k)^3*k");
        always("a term moved", h, 2, x -> x.change(1, 0, 9, 9));
        h = house("(n^12-1)*(n^12-4)");
        always("roots", h, 12, x -> x.roots(0));
        h = house("C(n,k)");
        always("a sum of values", h, 1024, x -> x.sum(0, 10, 0, 500));
    }

    private static void sums() {
        SumHouse h = house("(k+8)*(k+n+1)/(k*(k+n))");
        always("a form that is not modest", h, -2, x -> x.form(0, 2, 9));
        h = house("(k+6)*(k+n+1)/(k*(k+n))");
        always("a form", h, 1, x -> x.form(0, 2, 9));
        h = house("k^9*(n+k-1)!/k!");
        always("a closed form", h, 1, x -> x.close(0, 9));
        h = house("C(n,k)");
        always("no closed form", h, -1, x -> x.close(0, 9));
        h = house("C(n,k)^3");
        always("a recurrence", h, 2, x -> x.recur(0, 3, 9));
        h.recur(0, 3, 9);
        calls = 40;
        always("a check", h, 1, x -> x.check(9, 0));
        calls = 40;
        always("holds", h, 1, x -> x.holds(9, 0, 30, 5, 25));
        calls = 40;
        always("a part", h, 1, x -> x.part(9, -1, 8));
        h = house("(n^12+3+(n^10+1)*k+(n^5+n)*k^2)*k!^8");
        calls = 400;
        always("a large recurrence", h, 3, x -> x.recur(0, 3, 9));
        h = house("C(n,k)");
        h.recur(0, 1, 9);
        calls = 10;
        always("a poke of R", h, 1, x -> x.poke(9, -1, calls % 25, 12, 1) >= 0 ? 1 : 0);
        h = house("C(n,k)");
        h.recur(0, 1, 9);
        calls = 10;
        always("a row", h, 1, x -> x.row(9, 8));
        calls = 10;
        always("solve", h, 2, x -> x.solve(9, 7));
    }

    private static void rows() {
        SumHouse h = house("n^2+1");
        for (int i = 0; i < 12; i++) {
            h.feed(i < 2 ? i : new int[] {0, 1, 1, 2, 3, 5, 8, 13, 21, 34, 55, 89}[i]);
        }
        h.guess(1);
        calls = 30;
        always("a guess", h, 2, x -> x.guess(2));
        calls = 30;
        always("a product of rows", h, 3, x -> x.join(2, 1, 2, 3));
        calls = 30;
        always("a sum of rows", h, 2, x -> x.join(0, 1, 2, 3));
        calls = 30;
        always("a row summed", h, 3, x -> x.join(3, 1, 0, 3));
        calls = 30;
        always("a row moved", h, 2, x -> x.join(4, 1, 0, 3));
        calls = 30;
        always("a row scaled", h, 2, x -> x.join(5, 1, 0, 3));
        calls = 30;
        always("u(11)", h, 89, x -> x.at(1, 11));
    }

    private static void readings() {
        String text = "2^n*(n+k)^5*C(n,k)^2/(n*k+1)^3";
        SumHouse h = house("1");
        while (calls + 6 < MOST) {
            type(h, text);
            calls++;
            Due.due("reading, call " + calls, h.read(9), 2);
        }
        Due.due("as at first", Due.text(h, 9), Due.plain(text));
    }

    /** What a text with a fault has worked out until then is gone. */
    private static void faults() {
        String[] texts = {"n*(".repeat(20) + "1/0" + ")".repeat(20), "n+(".repeat(20) + "n^25" + ")".repeat(20),
            "1-(".repeat(20) + "n!+1" + ")".repeat(20), "k*(".repeat(20) + "1" + ")".repeat(20) + "*"};
        int[] want = {-13, -14, -12, -11};
        SumHouse h = new SumHouse();
        calls = 0;
        for (int turn = 0; calls + 22 < MOST; turn++) {
            type(h, texts[turn % 4]);
            calls++;
            Due.due("reading a fault, call " + calls, h.read(turn % 12), want[turn % 4]);
        }
        type(h, "k+n/2");
        Due.due("then none", h.read(0), 1);
        Due.due("what is read", Due.text(h, 0), Due.plain("k+n/2"));
        for (int turn = 0; turn < 200; turn++) {
            type(h, texts[turn % 4]);
            Due.due("far more faults", h.read(0), want[turn % 4]);
        }
        type(h, "k*n/2");
        Due.due("then none", h.read(0), 1);
        Due.due("what is read", Due.text(h, 0), Due.plain("k*n/2"));
    }

    private static void writing() {
        SumHouse h = house("(n+7)^24*(k+9)^2/(n+1)^3");
        int bytes = h.write(0);
        always("writing", h, bytes, x -> x.write(0));
        h = house("(n+7)^3*(k+9)^2/(n+1)^3");
        int few = h.write(0);
        always("again", h, few, x -> x.again());
    }

    private static void tape() {
        SumHouse h = new SumHouse();
        calls = 0;
        for (int i = 1; i <= 400; i++) {
            Due.due("byte " + i, h.type(32, 1), i);
        }
        calls = 400;
        always("one more", h, -1, x -> x.type(32, 1));
        Due.due("400", h.count(0), 400);
    }
}
