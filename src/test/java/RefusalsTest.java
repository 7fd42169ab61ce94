/** Promise 1: "a call that answers below 0 changes nothing, unless it says so", call by call. */
public final class RefusalsTest {
    private interface Call {
        int of(SumHouse house);
    }

    public static void main(String[] args) {
        Due.of("Promise 1", "a call that answers below 0 changes nothing, unless it says so");
        texts();
        slots();
        values();
        sums();
        rows();
        rest();
        reading();
        Due.end();
    }

    /**
     * Slots: 0 a ratio, 1 a term, 2 its record, 3 a row that is full, 4 a row that is not, 5 to 11 what
     * makes calls fail; something on the tape, written, fed, and two roots.
     */
    private static SumHouse filled() {
        SumHouse h = Due.house("(n+2)/(k+3)", "2^n*C(n,k)", "n", "n", "n", "n^24*k^12", "(n-3)*(n-4)", "0",
                "(n+54321)^24*(k+12345)^12", "(3*k)!^5", "n!^12", "C(n,3*k)");
        h.recur(1, 1, 2);
        h.row(2, 3);
        h.first(3, 5);
        h.row(2, 4);
        h.roots(6);
        h.write(0);
        h.feed(17);
        h.feed(18);
        Due.read(h, "1/0", 4);
        Due.type(h, "n+");
        return h;
    }

    /** All that can be seen of a house without a change. */
    private static String state(SumHouse h) {
        StringBuilder s = new StringBuilder();
        for (int slot = 0; slot < 12; slot++) {
            s.append(" slot ").append(slot).append(": ").append(h.kind(slot));
            for (int what = 0; what <= 4; what++) {
                s.append(' ').append(h.told(slot, what));
            }
            for (int which = 0; which < 2; which++) {
                int wide = h.degree(slot, which, 0);
                int tall = h.degree(slot, which, 1);
                s.append(' ').append(wide).append(' ').append(tall);
                for (int i = 0; i <= wide; i++) {
                    for (int j = 0; j <= tall; j++) {
                        s.append(' ').append(h.number(slot, which, i, j));
                    }
                }
            }
            for (int i = 0; i < 16; i++) {
                s.append(' ').append(h.factorial(slot, i / 4, i % 4));
            }
            for (int m = 0; m <= h.told(slot, 3); m++) {
                for (int i = 0; i <= 24; i++) {
                    s.append(' ').append(h.number(slot, 2 + m, i, 0));
                }
            }
            s.append(' ').append(h.at(slot, 0)).append(' ').append(h.at(slot, 300));
        }
        s.append(" counts:");
        for (int what = 0; what <= 5; what++) {
            s.append(' ').append(h.count(what));
        }
        for (int i = -1; i <= h.count(1); i++) {
            s.append(' ').append(h.written(i));
        }
        for (int i = -1; i <= h.count(3); i++) {
            s.append(' ').append(h.root(i));
        }
        return s.append(' ').append(h.place()).toString();
    }

    private static void refused(String what, int answer, Call call) {
        SumHouse h = filled();
        String before = state(h);
        Due.due(what, call.of(h), answer);
        Due.due(what + ": then all stays", state(h).equals(before) ? 1 : 0, 1);
        // what can be seen by changing it alone: the tape, the numbers fed, the row that is not full
        Due.due(what + ": then the tape", h.read(11), -11);
        Due.due(what + ": its fault", h.place(), 2);
        Due.due(what + ": then the row", h.first(4, 1), 1);
        Due.due(what + ": then the numbers fed", h.clear(), 2);
    }

    private static void texts() {
        refused("type of 0 bytes", -1, h -> h.type(0, 0));
        refused("type of 9 bytes", -1, h -> h.type(0, 9));
        refused("read to 12", -1, h -> h.read(12));
        refused("write of a record", -3, h -> h.write(2));
        refused("write of a row", -3, h -> h.write(3));
        refused("write of slot 12", -1, h -> h.write(12));
        refused("write of more than 4000", -2, h -> h.write(8));
        refused("written", -1, h -> h.written(99));
        SumHouse h = Due.house("(n+5)^24*(k+1)", "7");
        h.write(0);
        Due.due("more than 400", h.count(1) > 400 ? 1 : 0, 1);
        Due.type(h, "n+1");
        Due.due("again", h.again(), -2);
        Due.due("the tape", h.count(0), 3);
        Due.due("is read", h.read(2), 1);
        Due.due("n+1", Due.text(h, 2), "n+1");
        SumHouse g = new SumHouse();
        for (int i = 0; i < 50; i++) {
            g.type(0x6E2B6E2B6E2B312BL, 8);
        }
        Due.due("the 401st byte", g.type('n', 1), -1);
        Due.due("400 are there", g.count(0), 400);
        g.read(0);
        Due.due("the end is the place", g.place(), 400);
    }

    private static void slots() {
        refused("kind", -1, h -> h.kind(12));
        refused("drop", -1, h -> h.drop(12));
        refused("drop", -1, h -> h.drop(-1));
        refused("degree", -1, h -> h.degree(0, 2, 0));
        refused("degree", -3, h -> h.degree(3, 0, 0));
        refused("number", -1, h -> h.number(0, -1, 0, 0));
        refused("number", -3, h -> h.number(0, 2, 0, 0));
        refused("told", -1, h -> h.told(0, 5));
        refused("told", -3, h -> h.told(0, 3));
        refused("factorial", -1, h -> h.factorial(12, 0, 0));
        refused("count", -1, h -> h.count(6));
        refused("root", -1, h -> h.root(2));
    }

    private static void values() {
        refused("a sum with a term", -3, h -> h.work(0, 0, 1, 0));
        refused("op 7", -1, h -> h.work(7, 0, 0, 0));
        refused("by 0", -1, h -> h.work(3, 0, 7, 0));
        refused("a term by 0", -1, h -> h.work(3, 1, 7, 3));
        refused("too large a product", -2, h -> h.work(2, 5, 5, 0));
        refused("too large a term", -2, h -> h.work(2, 10, 1, 1));
        refused("a divisor of a ratio", -3, h -> h.work(4, 0, 5, 5));
        refused("to slot 12", -1, h -> h.work(2, 0, 0, 12));
        refused("change to slot -1", -1, h -> h.change(0, 0, 1, -1));
        refused("change 10 to slot 12", -1, h -> h.change(10, 0, 1, 12));
        refused("change 12", -1, h -> h.change(12, 0, 1, 0));
        refused("power 13", -1, h -> h.change(9, 0, 13, 0));
        refused("power -13", -1, h -> h.change(9, 1, -13, 1));
        refused("0 to -1", -1, h -> h.change(9, 7, -1, 7));
        refused("power 2 of n^24 k^12", -2, h -> h.change(9, 5, 2, 5));
        refused("-3 for k", -1, h -> h.change(3, 0, -3, 0));
        refused("n for k of n^24", -2, h -> h.change(6, 5, 0, 5));
        refused("a c of 51", -2, h -> h.change(0, 10, 51, 1));
        refused("a c of -51", -2, h -> h.change(0, 10, -51, 10));
        refused("the numerator of a term", -3, h -> h.change(7, 1, 0, 1));
        refused("the ratio of a ratio", -3, h -> h.change(11, 0, 0, 0));
        refused("of a record", -3, h -> h.change(0, 2, 1, 2));
        refused("value", -1, h -> h.value(0, 0, -3));
        refused("value of a row", -3, h -> h.value(3, 0, 0));
        refused("sum", -1, h -> h.sum(0, 501, 0, 0));
        refused("sum of a record", -3, h -> h.sum(2, 0, 0, 0));
        refused("quotient of 0", -1, h -> h.quotient(7, 0, 7));
        refused("quotient along 2", -1, h -> h.quotient(0, 2, 0));
        refused("too large a quotient", -2, h -> h.quotient(9, 1, 0));
        refused("quotient of a row", -3, h -> h.quotient(3, 0, 3));
    }

    private static void sums() {
        refused("form 3", -1, h -> h.form(0, 3, 0));
        refused("form of 0", -1, h -> h.form(7, 0, 3));
        refused("form of a term", -3, h -> h.form(1, 0, 1));
        refused("a form that is not modest", -2, h -> h.form(5, 0, 3));
        refused("no closed form", -1, h -> h.close(1, 1));
        refused("closed form of 0", -1, h -> h.close(7, 2));
        refused("closed form of a record", -3, h -> h.close(2, 2));
        refused("too large a quotient", -2, h -> h.close(9, 2));
        refused("recurrence up to 4", -1, h -> h.recur(1, 4, 2));
        refused("recurrence of order 0", -1, h -> h.recur(1, 0, 2));
        refused("recurrence of 0", -1, h -> h.recur(7, 1, 1));
        refused("recurrence of a record", -3, h -> h.recur(2, 1, 2));
        refused("too large a quotient", -2, h -> h.recur(9, 0, 2));
        refused("part 2", -1, h -> h.part(2, 2, 2));
        refused("part -2", -1, h -> h.part(2, -2, 2));
        refused("part -1 of a row", -1, h -> h.part(3, -1, 3));
        refused("part of a term", -3, h -> h.part(1, 0, 1));
        refused("check for 0", -1, h -> h.check(2, 7));
        refused("check of a row", -3, h -> h.check(3, 1));
        refused("check of too large a quotient", -2, h -> h.check(2, 9));
        refused("poke of a_2", -1, h -> h.poke(2, 2, 0, 0, 1));
        refused("poke of part -2", -1, h -> h.poke(2, -2, 0, 0, 1));
        refused("poke at n^25", -1, h -> h.poke(2, 0, 25, 0, 1));
        refused("poke at k^13", -1, h -> h.poke(2, -1, 0, 13, 1));
        refused("poke of an a_m at k", -1, h -> h.poke(2, 0, 0, 1, 1));
        refused("poke of a row", -3, h -> h.poke(3, 0, 0, 0, 1));
        refused("holds at 501", -1, h -> h.holds(2, 1, 500, 0, 1));
        refused("holds for a row", -3, h -> h.holds(2, 3, 5, 0, 1));
    }

    private static void rows() {
        refused("row of a row", -3, h -> h.row(3, 3));
        refused("row to slot 12", -1, h -> h.row(2, 12));
        refused("first of one that has all", -1, h -> h.first(3, 7));
        refused("first of a record", -3, h -> h.first(2, 7));
        refused("at 301", -1, h -> h.at(3, 301));
        refused("at of one that has not all", -1, h -> h.at(4, 0));
        refused("join 6", -1, h -> h.join(6, 3, 3, 3));
        refused("join of one that has not all", -1, h -> h.join(0, 3, 4, 3));
        refused("summed one that has not all", -1, h -> h.join(3, 4, 0, 3));
        refused("join with a term", -3, h -> h.join(0, 3, 1, 3));
        refused("scaled by 0", -3, h -> h.join(5, 3, 7, 3));
        refused("scaled by n^24 k^12", -3, h -> h.join(5, 3, 5, 3));
        refused("to slot 12", -1, h -> h.join(0, 3, 3, 12));
        refused("guess to 12", -1, h -> h.guess(12));
        refused("no guess", -1, h -> h.guess(3));
        refused("roots of 0", -3, h -> h.roots(7));
        refused("roots of a ratio", -3, h -> h.roots(0));
        refused("roots of slot 12", -1, h -> h.roots(12));
        refused("solve of a term", -3, h -> h.solve(1, 1));
        refused("solve to slot 12", -1, h -> h.solve(2, 12));
    }

    /** Calls that are refused for something that filled() has not. */
    private static void rest() {
        SumHouse h = filled();
        h.poke(2, 1, 0, 0, 0);
        String before = state(h);
        Due.due("a row whose a_r is 0", h.row(2, 3), -1);
        Due.due("not closed", h.solve(2, 3), -1);
        Due.due("then all stays", state(h).equals(before) ? 1 : 0, 1);
        h.poke(2, 1, 0, 0, -59);
        h.poke(2, 1, 1, 0, 1);
        h.poke(2, 0, 2, 0, 1);
        before = state(h);
        Due.due("a row that needs 61", h.row(2, 3), -2);
        Due.due("not closed with n^2 - 4", h.solve(2, 1), -1);
        Due.due("then all stays", state(h).equals(before) ? 1 : 0, 1);
        Due.read(h, "n^7", 11);
        Due.read(h, "1/(n^13+k)", 10);
        Due.read(h, "1/(n^12+k)", 9);
        before = state(h);
        Due.due("too large a sum", h.work(0, 9, 10, 9), -2);
        Due.due("too large a difference", h.work(1, 9, 10, 10), -2);
        Due.due("a derivative that is too large", h.change(4, 10, 0, 10), -2);
        Due.due("scaled by n^7", h.join(5, 3, 11, 3), -2);
        Due.due("then all stays", state(h).equals(before) ? 1 : 0, 1);
        for (int i = 2; i < 60; i++) {
            h.feed(i);
        }
        before = state(h);
        Due.due("the 61st", h.feed(7), -2);
        Due.due("then all stays", state(h).equals(before) ? 1 : 0, 1);
        Due.due("60 numbers", h.clear(), 60);
    }

    private static void reading() {
        Due.of("Promise 3", "Reads the tape, which is empty then");
        SumHouse h = filled();
        Due.due("a fault", h.read(1), -11);
        Due.due("the tape is empty", h.count(0), 0);
        Due.due("the place", h.place(), 2);
        Due.due("the term stays", Due.text(h, 1), "(1)*2^n/(k)!/(-k+n)!*(n)!");
    }
}
