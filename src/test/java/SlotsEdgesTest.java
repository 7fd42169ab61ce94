import java.util.LinkedHashMap;
import java.util.Map;

/** Promises 1, 8 to 13 and 36: slots, the order in which they are looked at, what is told of them. */
public final class SlotsEdgesTest {
    /** A call with its slots, all other numbers being told by one more. */
    private interface Call {
        int of(SumHouse house, int[] slots, int other);
    }

    private static final int EMPTY = 0;
    private static final int RATIO = 1;
    private static final int TERM = 2;
    private static final int RECORD = 3;
    private static final int ROW = 4;

    public static void main(String[] args) {
        constants();
        fresh();
        slotsFirst();
        kindsNext();
        othersLast();
        kindsOfEach();
        kindsOfTwo();
        places();
        dropped();
        degrees();
        numbers();
        tellings();
        factorials();
        counts();
        Due.end();
    }

    private static void constants() {
        Due.of("The constants", "NONE = -1: There is none .. LARGE = -2: It would be too large .. KIND = -3");
        Due.due("NONE", SumHouse.NONE, -1);
        Due.due("LARGE", SumHouse.LARGE, -2);
        Due.due("KIND", SumHouse.KIND, -3);
    }

    /** Slot 0 empty, 1 the ratio n - 2, 2 the term C(n, k), 3 its record, 4 the row 2^n; 5 the ratio 0. */
    static SumHouse filled() {
        SumHouse h = new SumHouse();
        Due.read(h, "n-2", RATIO);
        Due.read(h, "C(n,k)", TERM);
        Due.due("a record", h.recur(TERM, 1, RECORD), 1);
        Due.due("a row", h.row(RECORD, ROW), 1);
        h.first(ROW, 1);
        Due.read(h, "0", 5);
        return h;
    }

    private static void fresh() {
        Due.of("Promise 1", "Slots 0 to 11 are empty; the tape, the written text, the numbers fed, the roots: none");
        SumHouse h = new SumHouse();
        for (int slot = 0; slot < 12; slot++) {
            Due.due("kind of slot " + slot, h.kind(slot), 0);
            Due.due("drop of slot " + slot, h.drop(slot), 0);
        }
        Due.due("kind of slot 12", h.kind(12), -1);
        Due.due("kind of slot -1", h.kind(-1), -1);
        for (int what = 0; what <= 5; what++) {
            Due.due("count " + what, h.count(what), 0);
        }
        Due.due("written", h.written(0), -1);
        Due.due("root", h.root(0), -1);
        Due.due("place", h.place(), -1);
        Due.due("clear", h.clear(), 0);
        Due.due("a guess from none", h.guess(0), -1);
        Due.due("again", h.again(), 0);
        for (int slot = 0; slot < 12; slot++) {
            Due.due("a ratio into slot " + slot, Due.read(h, "n", slot), 1);
        }
        Due.due("all of them", h.count(4), 12);
    }

    /** Every call that names slots, with how many it names. */
    private static Map<String, Call> calls() {
        Map<String, Call> calls = new LinkedHashMap<>();
        calls.put("1 read", (h, s, v) -> h.read(s[0]));
        calls.put("1 write", (h, s, v) -> h.write(s[0]));
        calls.put("1 kind", (h, s, v) -> h.kind(s[0]));
        calls.put("1 drop", (h, s, v) -> h.drop(s[0]));
        calls.put("1 degree", (h, s, v) -> h.degree(s[0], v, v));
        calls.put("1 number", (h, s, v) -> h.number(s[0], v, v, v));
        calls.put("1 told", (h, s, v) -> h.told(s[0], v));
        calls.put("1 factorial", (h, s, v) -> h.factorial(s[0], v, v));
        calls.put("3 work", (h, s, v) -> h.work(v, s[0], s[1], s[2]));
        calls.put("2 change", (h, s, v) -> h.change(v, s[0], v, s[1]));
        calls.put("1 value", (h, s, v) -> h.value(s[0], v, v));
        calls.put("1 sum", (h, s, v) -> h.sum(s[0], v, v, v));
        calls.put("2 quotient", (h, s, v) -> h.quotient(s[0], v, s[1]));
        calls.put("2 form", (h, s, v) -> h.form(s[0], v, s[1]));
        calls.put("2 close", (h, s, v) -> h.close(s[0], s[1]));
        calls.put("2 recur", (h, s, v) -> h.recur(s[0], v, s[1]));
        calls.put("2 part", (h, s, v) -> h.part(s[0], v, s[1]));
        calls.put("2 check", (h, s, v) -> h.check(s[0], s[1]));
        calls.put("1 poke", (h, s, v) -> h.poke(s[0], v, v, v, v));
        calls.put("2 holds", (h, s, v) -> h.holds(s[0], s[1], v, v, v));
        calls.put("2 row", (h, s, v) -> h.row(s[0], s[1]));
        calls.put("1 first", (h, s, v) -> h.first(s[0], v));
        calls.put("1 at", (h, s, v) -> h.at(s[0], v));
        calls.put("3 join 0", (h, s, v) -> h.join(0, s[0], s[1], s[2]));
        calls.put("3 join 1", (h, s, v) -> h.join(1, s[0], s[1], s[2]));
        calls.put("3 join 2", (h, s, v) -> h.join(2, s[0], s[1], s[2]));
        calls.put("2 join 3", (h, s, v) -> h.join(3, s[0], v, s[1]));
        calls.put("2 join 4", (h, s, v) -> h.join(4, s[0], v, s[1]));
        calls.put("3 join 5", (h, s, v) -> h.join(5, s[0], s[1], s[2]));
        calls.put("2 join 99", (h, s, v) -> h.join(99, s[0], v, s[1]));
        calls.put("1 guess", (h, s, v) -> h.guess(s[0]));
        calls.put("1 roots", (h, s, v) -> h.roots(s[0]));
        calls.put("2 solve", (h, s, v) -> h.solve(s[0], s[1]));
        return calls;
    }

    private static void slotsFirst() {
        Due.of("Promise 1", "Calls that name slots look first whether there are such ones (NONE)");
        for (Map.Entry<String, Call> entry : calls().entrySet()) {
            int many = entry.getKey().charAt(0) - '0';
            for (int place = 0; place < many; place++) {
                for (int missing : new int[] {-1, 12, Integer.MIN_VALUE, Integer.MAX_VALUE}) {
                    // the other slots are empty, the other numbers wrong: NONE goes ahead of KIND
                    int[] slots = {EMPTY, EMPTY, EMPTY};
                    slots[place] = missing;
                    String what = entry.getKey() + " with " + missing + " at place " + place;
                    Due.due(what, entry.getValue().of(filled(), slots, 99), -1);
                    slots = new int[] {TERM, TERM, TERM};
                    slots[place] = missing;
                    Due.due(what + ", terms beside", entry.getValue().of(filled(), slots, 1), -1);
                }
            }
        }
    }

    private static void kindsNext() {
        Due.of("Promise 1", "then whether each has what the comment says that it has (KIND, also when it is empty)");
        for (Map.Entry<String, Call> entry : calls().entrySet()) {
            String name = entry.getKey().substring(2);
            if (name.equals("read") || name.equals("kind") || name.equals("drop") || name.equals("guess")) {
                continue;
            }
            int want = name.equals("told") ? -1 : name.equals("factorial") ? 0 : -3;
            for (int v : new int[] {99, -99, Integer.MAX_VALUE, Integer.MIN_VALUE}) {
                int[] slots = {EMPTY, EMPTY, EMPTY};
                Due.due(name + " of an empty slot, the rest " + v, entry.getValue().of(filled(), slots, v), want);
            }
        }
    }

    private static void othersLast() {
        Due.of("Promise 1", "then at the rest (NONE for others: other numbers)");
        SumHouse h = filled();
        for (int v : new int[] {-1, 7, 99, Integer.MAX_VALUE, Integer.MIN_VALUE}) {
            Due.due("work " + v, h.work(v, RATIO, RATIO, 11), -1);
            Due.due("quotient " + v, h.quotient(RATIO, v, 11), -1);
            Due.due("form " + v, h.form(RATIO, v, 11), -1);
            Due.due("recur " + v, h.recur(TERM, v, 11), -1);
            Due.due("degree " + v, h.degree(RATIO, v, 0), -1);
            Due.due("degree along " + v, h.degree(RATIO, 0, v), -1);
            Due.due("told " + v, h.told(TERM, v), -1);
            Due.due("count " + v, h.count(v), -1);
            Due.due("join " + v, h.join(v, ROW, v, 11), -1);
            Due.due("part of a row " + v, h.part(ROW, v, 11), -1);
        }
        for (int v : new int[] {-1, 12, 99, Integer.MAX_VALUE, Integer.MIN_VALUE}) {
            Due.due("change " + v, h.change(v, RATIO, 1, 11), -1);
            Due.due("change of a term " + v, h.change(v, TERM, 1, 11), -1);
        }
        for (int v : new int[] {-2, 2, 99, Integer.MAX_VALUE, Integer.MIN_VALUE}) {
            Due.due("part " + v, h.part(RECORD, v, 11), -1);
        }
        Due.due("nothing came", h.kind(11), 0);
        Due.of("Promise 1", "what comes goes into slot to, in place of what is there (it may be one of the others)");
        Due.due("the sum in its own place", h.work(0, RATIO, RATIO, RATIO), 1);
        Due.due("2 n - 4", Due.text(h, RATIO), "2*n-4");
        Due.due("over a record", h.work(2, RATIO, RATIO, RECORD), 1);
        Due.due("its kind", h.kind(RECORD), 1);
        Due.due("its order is gone", h.told(RECORD, 3), -3);
        Due.due("over a row", h.quotient(TERM, 1, ROW), 1);
        Due.due("its needs are gone", h.told(ROW, 4), -3);
        Due.due("a record over its term", h.recur(TERM, 1, TERM), 1);
        Due.due("X is gone", h.told(TERM, 0), -3);
        Due.due("a row over its record", h.row(TERM, TERM), 1);
        Due.due("its kind is that of a row", h.kind(TERM), 4);
        Due.due("it has no R", h.degree(TERM, 0, 0), -3);
        h.first(TERM, 1);
        Due.due("summed in its own place", h.join(3, TERM, 0, TERM), 2);
        Due.due("1 + 2 + 4", h.at(TERM, 2), 7);
        Due.due("with itself into itself", h.join(0, TERM, TERM, TERM), 2);
        Due.due("twice that", h.at(TERM, 2), 14);
        Due.due("solve into its own place", filled().solve(ROW, ROW), 2);
    }

    /** The kinds of slots (as digits) for which a call is not KIND. */
    private static void kinds(String what, String fine, Call call) {
        for (int slot = 0; slot <= 4; slot++) {
            int answer = call.of(filled(), new int[] {slot}, 0);
            boolean isFine = fine.indexOf('0' + slot) >= 0;
            Due.due(what + " of kind " + slot + (isFine ? " is not KIND" : ""), isFine ? answer == -3 ? 1 : 0 : answer,
                    isFine ? 0 : -3);
        }
    }

    private static void kindsOfEach() {
        Due.of("Promise 1", "whether each has what the comment says that it has (KIND");
        kinds("write", "12", (h, s, v) -> h.write(s[0]));
        kinds("degree", "123", (h, s, v) -> h.degree(s[0], 0, 0));
        kinds("degree of 7, 7", "123", (h, s, v) -> h.degree(s[0], 7, 7));
        kinds("number 0", "123", (h, s, v) -> h.number(s[0], 0, 0, 0));
        kinds("number 1", "123", (h, s, v) -> h.number(s[0], 1, 0, 0));
        kinds("number 2", "34", (h, s, v) -> h.number(s[0], 2, 0, 0));
        kinds("number 99", "34", (h, s, v) -> h.number(s[0], 99, 0, 0));
        kinds("number -1", "1234", (h, s, v) -> h.number(s[0], -1, 0, 0));
        for (int what = 0; what < 3; what++) {
            int w = what;
            kinds("told " + what, "2", (h, s, v) -> h.told(s[0], w));
        }
        kinds("told 3", "34", (h, s, v) -> h.told(s[0], 3));
        kinds("told 4", "4", (h, s, v) -> h.told(s[0], 4));
        kinds("told 5", "01234", (h, s, v) -> h.told(s[0], 5));
        kinds("factorial", "01234", (h, s, v) -> h.factorial(s[0], 0, 0));
        for (int op = -1; op <= 12; op++) {
            int o = op;
            String fine = op == 10 ? "01234" : op >= 2 && op <= 8 ? "1" : op == 11 ? "2" : "12";
            kinds("change " + op, fine, (h, s, v) -> h.change(o, s[0], 1, 11));
        }
        kinds("value", "12", (h, s, v) -> h.value(s[0], 3, 2));
        kinds("sum", "12", (h, s, v) -> h.sum(s[0], 3, 2, 2));
        kinds("quotient", "12", (h, s, v) -> h.quotient(s[0], 0, 11));
        kinds("form", "1", (h, s, v) -> h.form(s[0], 0, 11));
        kinds("close", "12", (h, s, v) -> h.close(s[0], 11));
        kinds("recur", "12", (h, s, v) -> h.recur(s[0], 1, 11));
        kinds("part", "34", (h, s, v) -> h.part(s[0], 0, 11));
        kinds("part -1", "34", (h, s, v) -> h.part(s[0], -1, 11));
        kinds("poke", "3", (h, s, v) -> h.poke(s[0], 0, 0, 0, 1));
        kinds("row", "3", (h, s, v) -> h.row(s[0], 11));
        kinds("first", "4", (h, s, v) -> h.first(s[0], 1));
        kinds("at", "4", (h, s, v) -> h.at(s[0], 1));
        kinds("roots", "1", (h, s, v) -> h.roots(s[0]));
        kinds("solve", "34", (h, s, v) -> h.solve(s[0], 11));
        for (int op = -1; op <= 6; op++) {
            int o = op;
            kinds("join " + op, "4", (h, s, v) -> h.join(o, s[0], o == 5 ? RATIO : ROW, 11));
        }
    }

    private static void kindsOfTwo() {
        Due.of("Promise 1", "whether each has what the comment says that it has (KIND");
        for (int op = -1; op <= 7; op++) {
            int o = op;
            boolean ratiosAlone = op == 0 || op == 1 || op >= 4 && op <= 6;
            kinds("work " + op + ", first", ratiosAlone ? "1" : "12", (h, s, v) -> h.work(o, s[0], RATIO, 11));
            kinds("work " + op + ", second", ratiosAlone ? "1" : "12", (h, s, v) -> h.work(o, RATIO, s[0], 11));
        }
        kinds("check, first", "3", (h, s, v) -> h.check(s[0], TERM));
        kinds("check, second", "12", (h, s, v) -> h.check(RECORD, s[0]));
        kinds("holds, first", "3", (h, s, v) -> h.holds(s[0], TERM, 9, 1, 2));
        kinds("holds, second", "12", (h, s, v) -> h.holds(RECORD, s[0], 9, 1, 2));
        for (int op = 0; op <= 2; op++) {
            int o = op;
            kinds("join " + op + ", second", "4", (h, s, v) -> h.join(o, ROW, s[0], 11));
        }
        kinds("join 5, second", "1", (h, s, v) -> h.join(5, ROW, s[0], 11));
        for (int slot = 0; slot <= 4; slot++) {
            Due.due("join 3 does not look at slot " + slot, filled().join(3, ROW, slot, 11), 2);
            Due.due("join 4 does not look at slot " + slot, filled().join(4, ROW, slot, 11), 1);
        }
        Due.of("Promise 14", "of two polynomials (denominator 1; KIND otherwise)");
        SumHouse h = Due.house("1/n", "n", "(n+k)/2", "0");
        for (int op = 4; op <= 6; op++) {
            Due.due("one is none", h.work(op, 0, 1, 11), -3);
            Due.due("the other is none", h.work(op, 1, 0, 11), -3);
            Due.due("a half is a number", h.work(op, 1, 2, 11), 1);
            Due.due("0 is one", h.work(op, 1, 3, 11), 1);
        }
    }

    private static void places() {
        Due.of("Promise 8", "What is in a slot: 0 nothing, 1 a ratio, 2 a term, 3 a record, 4 a row");
        SumHouse h = filled();
        for (int slot = 0; slot <= 4; slot++) {
            Due.due("slot " + slot, h.kind(slot), slot);
        }
        Due.due("0 is a ratio", h.kind(5), 1);
        Due.due("slot 11", h.kind(11), 0);
        Due.due("slot 12", h.kind(12), -1);
    }

    private static void dropped() {
        Due.of("Promise 9", "A slot is empty then: the kind that was there");
        SumHouse h = filled();
        for (int slot = 4; slot >= 0; slot--) {
            Due.due("drop of slot " + slot, h.drop(slot), slot);
            Due.due("kind of slot " + slot, h.kind(slot), 0);
            Due.due("again", h.drop(slot), 0);
        }
        Due.due("slot 5 stays", h.kind(5), 1);
        Due.due("one is left", h.count(4), 1);
        Due.due("its factorials are gone", h.factorial(TERM, 0, 1), 0);
        Due.due("its degree is gone", h.degree(RATIO, 0, 0), -3);
    }

    private static void degrees() {
        Due.of("Promise 10", "Of a ratio (of a term its ratio, of a record R): which = 0 the numerator, 1 the denominator");
        SumHouse h = Due.house("(n^3*k+k^2)/(n^5+k^7)", "n^4*k!/k^3", "C(n,k)^2");
        int[][] want = {{3, 2}, {5, 7}};
        for (int which = 0; which < 2; which++) {
            for (int way = 0; way < 2; way++) {
                Due.due("degree " + which + ", " + way, h.degree(0, which, way), want[which][way]);
            }
        }
        Due.due("a term's ratio", h.degree(1, 0, 0), 4);
        Due.due("a term's ratio below", h.degree(1, 1, 1), 3);
        // R of C(n, k)^2 is k^2 (2 k - 3 n - 3) by (k - n - 1)^2
        Due.due("of order 1", h.recur(2, 1, 3), 1);
        Due.due("R above in k", h.degree(3, 0, 1), 3);
        Due.due("R above in n", h.degree(3, 0, 0), 1);
        Due.due("R below in k", h.degree(3, 1, 1), 2);
        Due.due("R below in n", h.degree(3, 1, 0), 2);
        Due.of("Promise 10", "NONE for other numbers");
        Due.due("which 2", h.degree(0, 2, 0), -1);
        Due.due("which -1", h.degree(0, -1, 1), -1);
        Due.due("way 2", h.degree(0, 1, 2), -1);
        Due.due("way -1", h.degree(0, 0, -1), -1);
    }

    private static void numbers() {
        Due.of("Promise 11", "Of these the number at n^i k^j; 0 when there is none such");
        SumHouse h = Due.house("5*n^24*k^12+7", "(3*k+n)*n!", "C(n,k)^2");
        Due.due("n^24 k^12", h.number(0, 0, 24, 12), 5);
        Due.due("n^0 k^0", h.number(0, 0, 0, 0), 7);
        Due.due("n^23 k^12", h.number(0, 0, 23, 12), 0);
        Due.due("n^25", h.number(0, 0, 25, 12), 0);
        Due.due("k^13", h.number(0, 0, 24, 13), 0);
        Due.due("n^-1", h.number(0, 0, -1, 0), 0);
        Due.due("k^-1", h.number(0, 0, 0, -1), 0);
        Due.due("far off", h.number(0, 1, Integer.MAX_VALUE, Integer.MIN_VALUE), 0);
        Due.due("what is below", h.number(0, 1, 0, 0), 1);
        Due.due("a term's ratio", h.number(1, 0, 0, 1), 3);
        Due.of("Promise 11", "Of a record or row with which = 2 + m: that of a_m at n^i");
        h.recur(2, 1, 3);
        h.row(3, 4);
        for (int slot = 3; slot <= 4; slot++) {
            Due.due("a_0 at n^0", h.number(slot, 2, 0, 0), 2147483645);
            Due.due("a_0 at n", h.number(slot, 2, 1, 0), 2147483643);
            Due.due("a_1 at n", h.number(slot, 3, 1, 0), 1);
            Due.due("a_1 at n^2", h.number(slot, 3, 2, 0), 0);
            Due.due("a_1 at n^-1", h.number(slot, 3, -1, 0), 0);
            Due.due("a_1 at n^25", h.number(slot, 3, 25, 0), 0);
            Due.due("a_1 far off", h.number(slot, 3, Integer.MAX_VALUE, 0), 0);
            Due.of("Promise 11", "(0 when j is not 0; NONE when there is no a_m; KIND of a ratio or term)");
            Due.due("j = 1", h.number(slot, 3, 1, 1), 0);
            Due.due("j = -1", h.number(slot, 3, 1, -1), 0);
            Due.due("a_2", h.number(slot, 4, 0, 0), -1);
            Due.due("a_2 with j = 1", h.number(slot, 4, 0, 1), -1);
            Due.due("the greatest int", h.number(slot, Integer.MAX_VALUE, 0, 0), -1);
        }
        Due.due("of a ratio", h.number(0, 2, 0, 0), -3);
        Due.due("of a term", h.number(1, 2, 0, 0), -3);
        Due.due("of a ratio, the greatest int", h.number(0, Integer.MAX_VALUE, 0, 0), -3);
        Due.of("Promise 11", "NONE for which below 0 (KIND when the slot is empty)");
        for (int slot = 0; slot <= 4; slot++) {
            Due.due("which -1 of slot " + slot, h.number(slot, -1, 0, 0), -1);
            Due.due("the least int of slot " + slot, h.number(slot, Integer.MIN_VALUE, 0, 0), -1);
        }
        Due.due("which -1 of an empty slot", h.number(9, -1, 0, 0), -3);
        Due.due("R of a row", h.number(4, 0, 0, 0), -3);
        Due.due("R of a record", h.number(3, 1, 0, 2), 1);
    }

    private static void tellings() {
        Due.of("Promise 12", "Of a term: what = 0 X, 1 Y, 2 how many factorials");
        SumHouse h = Due.house("2^n*(-1)^k/C(n,k)", "3^k", "n", "C(n,k)^2");
        Due.due("X", h.told(0, 0), 2);
        Due.due("Y", h.told(0, 1), 2147483646);
        Due.due("factorials", h.told(0, 2), 3);
        Due.due("X of 3^k", h.told(1, 0), 1);
        Due.due("no factorials", h.told(1, 2), 0);
        Due.of("Promise 12", "Of a record or row: 3 the order. Of a row: 4 how many first numbers it needs");
        h.recur(3, 1, 4);
        h.row(4, 5);
        Due.due("a record's order", h.told(4, 3), 1);
        Due.due("a row's order", h.told(5, 3), 1);
        Due.due("a row's needs", h.told(5, 4), 1);
        h.first(5, 1);
        Due.due("a row's needs when it has all", h.told(5, 4), 1);
        Due.of("Promise 12", "NONE for others, whatever the slot has; KIND when it has no such");
        for (int slot = 0; slot <= 6; slot++) {
            Due.due("5 of slot " + slot, h.told(slot, 5), -1);
            Due.due("-1 of slot " + slot, h.told(slot, -1), -1);
        }
        for (int what = 0; what < 3; what++) {
            Due.due("of a ratio " + what, h.told(2, what), -3);
            Due.due("of a record " + what, h.told(4, what), -3);
            Due.due("of a row " + what, h.told(5, what), -3);
        }
        Due.due("a term's order", h.told(0, 3), -3);
        Due.due("a ratio's needs", h.told(2, 4), -3);
        Due.due("a record's needs", h.told(4, 4), -3);
        Due.due("an empty slot", h.told(9, 4), -3);
    }

    private static void factorials() {
        Due.of("Promise 13", "Of factorial i of a term: what = 0 a, 1 b, 2 c, 3 e");
        SumHouse h = Due.house("(3*n-2*k+7)!^5", "n", "C(n,k)");
        int[] want = {3, -2, 7, 5};
        for (int what = 0; what < 4; what++) {
            Due.due("what " + what, h.factorial(0, 0, what), want[what]);
        }
        Due.of("Promise 13", "0 when there is none such, when what is another number, or when the slot has no term");
        Due.due("i = 1", h.factorial(0, 1, 3), 0);
        Due.due("i = -1", h.factorial(0, -1, 3), 0);
        Due.due("i the greatest int", h.factorial(0, Integer.MAX_VALUE, 3), 0);
        Due.due("what 4", h.factorial(0, 0, 4), 0);
        Due.due("what -1", h.factorial(0, 0, -1), 0);
        Due.due("a ratio", h.factorial(1, 0, 3), 0);
        Due.due("an empty slot", h.factorial(8, 0, 3), 0);
        h.recur(2, 1, 3);
        h.row(3, 4);
        Due.due("a record", h.factorial(3, 0, 3), 0);
        Due.due("a row", h.factorial(4, 0, 3), 0);
        Due.due("i = 2 of three", h.factorial(2, 2, 3), 1);
        Due.due("i = 3 of three", h.factorial(2, 3, 3), 0);
        Due.due("slot 12", h.factorial(12, 0, 0), -1);
    }

    private static void counts() {
        Due.of("Promise 36", "0 bytes on the tape, 1 bytes written, 2 numbers fed, 3 roots told, 4 slots that are not empty, 5 records");
        SumHouse h = filled();
        int[] want = {0, 0, 0, 0, 5, 1};
        for (int what = 0; what < 6; what++) {
            Due.due("count " + what, h.count(what), want[what]);
        }
        h.type(0, 5);
        h.write(RATIO);
        h.feed(0);
        h.feed(0);
        h.roots(RATIO);
        h.recur(TERM, 1, 11);
        int[] then = {5, 3, 2, 1, 6, 2};
        for (int what = 0; what < 6; what++) {
            Due.due("count " + what, h.count(what), then[what]);
        }
        h.read(11);
        h.clear();
        h.drop(11);
        Due.read(h, "7", RATIO);
        h.roots(RATIO);
        h.write(RATIO);
        int[] last = {0, 1, 0, 0, 5, 1};
        for (int what = 0; what < 6; what++) {
            Due.due("count " + what, h.count(what), last[what]);
        }
        Due.of("Promise 36", "NONE for others");
        Due.due("6", h.count(6), -1);
        Due.due("-1", h.count(-1), -1);
        Due.due("the greatest int", h.count(Integer.MAX_VALUE), -1);
        Due.due("the least int", h.count(Integer.MIN_VALUE), -1);
    }
}
