/**
 * A house for sums of terms: rational functions in n and k, terms with factorials and powers,
 * sums in closed form or by recurrences, and rows of numbers by recurrences.
 */
public final class SumHouse {
    public static final int NONE = -1;
    public static final int LARGE = -2;
    public static final int KIND = -3;

    private static final int SLOTS = 12;
    private static final int RATIO = 1;
    private static final int TERM = 2;
    private static final int RECORD = 3;
    private static final int ROW = 4;
    private static final int P = 2147483647;
    private static final int MOST_N = 24;
    private static final int MOST_K = 12;
    private static final int MOST_FIRSTS = 60;
    private static final int MOST_ORDER = 6;
    private static final int FED = 60;
    private static final int VALUES = 500;
    private static final int PLACES = 300;

    private final Slot[] slots;
    private final Room room;
    private final Planes planes;
    private final Divisors divisors;
    private final Ratios ratios;
    private final Terms terms;
    private final Texts texts;
    private final Sums sums;
    private final Sequences sequences;
    private final int[] fed;
    private int fedCount;
    private final int[] found;
    private int foundCount;

    public SumHouse() {
        slots = new Slot[SLOTS];
        for (int i = 0; i < SLOTS; i++) {
            slots[i] = new Slot();
        }
        Room cells = new Room();
        Planes polynomials = new Planes(cells);
        Divisors dividing = new Divisors(cells, polynomials);
        Ratios fractions = new Ratios(cells, polynomials, dividing);
        Terms products = new Terms(cells, polynomials, dividing, fractions);
        Solver solver = new Solver(cells);
        room = cells;
        planes = polynomials;
        divisors = dividing;
        ratios = fractions;
        terms = products;
        texts = new Texts(products);
        sums = new Sums(cells, polynomials, dividing, fractions, products, solver);
        sequences = new Sequences(cells, polynomials, dividing, solver);
        fed = new int[FED];
        fedCount = 0;
        found = new int[MOST_N];
        foundCount = 0;
    }

    // ---- the tape and the texts

    public int type(long bytes, int n) {
        return texts.append(bytes, n);
    }

    public int read(int to) {
        Slot target = slotAt(to);
        if (target == null) {
            return NONE;
        }
        room.empty();
        int fault = texts.compile();
        for (int i = 0; i < texts.codeCount && fault == 0; i++) {
            fault = texts.ready(i);
            if (fault != 0) {
                break;
            }
            int v = texts.left;
            int w = texts.right;
            int made;
            switch (texts.code) {
                case Texts.PLUS:
                case Texts.MINUS:
                    made = terms.plus(v, w, texts.code == Texts.PLUS ? 1 : P - 1);
                    break;
                case Texts.TIMES:
                case Texts.BY:
                    made = terms.times(v, w, texts.code == Texts.TIMES ? 1 : -1);
                    break;
                case Texts.POWER:
                    made = terms.powerOfLine(v);
                    break;
                case Texts.FACTORIAL:
                case Texts.CHOICE:
                    made = terms.factorialsOfLines(texts.code == Texts.CHOICE ? 3 : 1);
                    break;
                case Texts.NEGATE:
                    made = terms.negative(v);
                    break;
                case Texts.NUMBER:
                    made = terms.ofNumber(w);
                    break;
                default:
                    made = terms.line(texts.code == Texts.IN_N ? 1 : 0, texts.code == Texts.IN_K ? 1 : 0, 0);
                    break;
            }
            fault = texts.finish(made);
        }
        texts.emptyTape();
        if (fault == 0 && room.full) {
            fault = 4;
        }
        if (fault != 0) {
            return -10 - fault;
        }
        texts.faultPlace = NONE;
        return terms.save(texts.result(), target);
    }

    public int place() {
        return texts.faultPlace;
    }

    public int write(int slot) {
        Slot s = slotAt(slot);
        if (s == null) {
            return NONE;
        }
        return isRatioOrTerm(s) ? texts.inscribe(s) : KIND;
    }

    public int written(int i) {
        return texts.inscribed(i);
    }

    public int again() {
        return texts.retype();
    }

    // ---- what is in the slots

    public int kind(int slot) {
        Slot s = slotAt(slot);
        return s == null ? NONE : s.kind;
    }

    public int drop(int slot) {
        Slot s = slotAt(slot);
        if (s == null) {
            return NONE;
        }
        int was = s.kind;
        s.wipe();
        return was;
    }

    public int degree(int slot, int which, int way) {
        Slot s = slotAt(slot);
        if (s == null) {
            return NONE;
        }
        if (s.kind != RATIO && s.kind != TERM && s.kind != RECORD) {
            return KIND;
        }
        if (which < 0 || which > 1 || way < 0 || way > 1) {
            return NONE;
        }
        return way == 0 ? s.wide(which) : s.tall(which);
    }

    public int number(int slot, int which, int i, int j) {
        Slot s = slotAt(slot);
        if (s == null) {
            return NONE;
        }
        if (s.kind == 0) {
            return KIND;
        }
        if (which < 0) {
            return NONE;
        }
        if (which < 2) {
            return s.kind == ROW ? KIND : s.ratioNumber(which, i, j);
        }
        if (s.kind != RECORD && s.kind != ROW) {
            return KIND;
        }
        if (which - 2 > s.order) {
            return NONE;
        }
        return j == 0 ? s.stepNumber(which - 2, i) : 0;
    }

    public int told(int slot, int what) {
        Slot s = slotAt(slot);
        if (s == null || what < 0 || what > 4) {
            return NONE;
        }
        if (what <= 2) {
            return s.kind != TERM ? KIND : what == 0 ? s.x : what == 1 ? s.y : s.factorials;
        }
        if (what == 3) {
            return s.kind == RECORD || s.kind == ROW ? s.order : KIND;
        }
        return s.kind == ROW ? s.needs : KIND;
    }

    public int factorial(int slot, int i, int what) {
        Slot s = slotAt(slot);
        if (s == null) {
            return NONE;
        }
        if (s.kind != TERM || i < 0 || i >= s.factorials || what < 0 || what > 3) {
            return 0;
        }
        return s.fact(i, what);
    }

    public int count(int what) {
        if (what < 0 || what > 5) {
            return NONE;
        }
        if (what <= 1) {
            return what == 0 ? texts.tapeCount : texts.writtenCount;
        }
        if (what <= 3) {
            return what == 2 ? fedCount : foundCount;
        }
        int many = 0;
        for (int i = 0; i < SLOTS; i++) {
            int k = slots[i].kind;
            if (what == 4 ? k != 0 : k == RECORD) {
                many++;
            }
        }
        return many;
    }

    // ---- ratios and terms

    public int work(int op, int a, int b, int to) {
        Slot s = slotAt(a);
        Slot t = slotAt(b);
        Slot target = slotAt(to);
        if (s == null || t == null || target == null) {
            return NONE;
        }
        if (!isRatioOrTerm(s) || !isRatioOrTerm(t)) {
            return KIND;
        }
        if ((op == 0 || op == 1) && (s.kind == TERM || t.kind == TERM)) {
            return KIND;
        }
        if (op >= 4 && op <= 6 && !(isPolynomial(s) && isPolynomial(t))) {
            return KIND;
        }
        if (op < 0 || op > 6 || op == 3 && t.isZero()) {
            return NONE;
        }
        room.empty();
        int v = terms.load(s);
        int w = terms.load(t);
        int made;
        if (op <= 1) {
            made = terms.plus(v, w, op == 0 ? 1 : P - 1);
        } else if (op <= 3) {
            made = terms.times(v, w, op == 2 ? 1 : -1);
        } else {
            made = ofPolynomials(op, v, w);
        }
        return keep(made, target);
    }

    /** The greatest common divisor or a resultant of the numerators of two values. */
    private int ofPolynomials(int op, int v, int w) {
        int a = terms.ratioOf(v);
        int b = terms.ratioOf(w);
        int made = terms.open();
        int p;
        if (op == 4) {
            p = divisors.gcd(a, b);
        } else if (op == 5) {
            p = divisors.resultant(a, b);
        } else {
            int mark = room.top;
            p = divisors.resultant(planes.turned(a), planes.turned(b));
            p = room.settle(mark, planes.turned(p));
        }
        room.constant(1);
        return ratios.fits(p) ? made : NONE;
    }

    public int change(int op, int a, int v, int to) {
        Slot s = slotAt(a);
        Slot target = slotAt(to);
        if (s == null || target == null) {
            return NONE;
        }
        room.empty();
        if (op == 10) {
            return keep(terms.ofNumber(Numbers.rest(v)), target);
        }
        if (!isRatioOrTerm(s)) {
            return KIND;
        }
        boolean term = s.kind == TERM;
        if (term && op >= 2 && op <= 8 || !term && op == 11) {
            return KIND;
        }
        if (op < 0 || op > 11) {
            return NONE;
        }
        if (op == 9 && (v < -12 || v > 12 || v < 0 && s.isZero())) {
            return NONE;
        }
        int u = terms.load(s);
        if (op == 9) {
            return keep(terms.power(u, v), target);
        }
        if (op <= 1) {
            return keep(term ? terms.slid(u, op, v) : terms.slidRatio(u, op, Numbers.rest(v)), target);
        }
        return changed(op, terms.ratioOf(u), Numbers.rest(v), target);
    }

    /** What of a ratio comes of op 2 to 8 and 11 goes into a slot. */
    private int changed(int op, int q, int v, Slot target) {
        int num = q;
        int den = ratios.under(q);
        int above = num;
        int below = den;
        int one = room.constant(1);
        if (op == 2) {
            above = planes.withN(num, v);
            below = planes.withN(den, v);
        } else if (op == 3) {
            above = planes.withK(num, v);
            below = planes.withK(den, v);
        } else if (op == 4 || op == 5) {
            int left = planes.times(planes.derivative(num, op == 4), den);
            int right = planes.times(planes.derivative(den, op == 4), num);
            above = planes.plus(left, right, P - 1);
            below = planes.times(den, den);
        } else if (op == 6) {
            above = planes.turned(num);
            below = planes.turned(den);
        } else if (op == 7) {
            below = one;
        } else if (op == 8) {
            above = den;
            below = one;
        }
        if (room.isZero(below)) {
            return NONE;
        }
        int made = terms.open();
        int r = ratios.reduced(above, below);
        return keep(ratios.fits(r) ? made : NONE, target);
    }

    public int value(int slot, int n, int k) {
        Slot s = slotAt(slot);
        if (s == null) {
            return NONE;
        }
        return isRatioOrTerm(s) ? terms.valueOf(s, n, k) : KIND;
    }

    public int sum(int slot, int n, int low, int high) {
        Slot s = slotAt(slot);
        if (s == null) {
            return NONE;
        }
        if (!isRatioOrTerm(s)) {
            return KIND;
        }
        return terms.sumOf(s, n, low, high);
    }

    public int quotient(int slot, int way, int to) {
        Slot s = slotAt(slot);
        Slot target = slotAt(to);
        if (s == null || target == null) {
            return NONE;
        }
        if (!isRatioOrTerm(s)) {
            return KIND;
        }
        if (way < 0 || way > 1 || s.isZero()) {
            return NONE;
        }
        room.empty();
        int v = terms.load(s);
        int made = terms.open();
        int q = terms.step(v, way, 1);
        return keep(ratios.fits(q) ? made : NONE, target);
    }

    // ---- sums

    public int form(int slot, int which, int to) {
        Slot s = slotAt(slot);
        Slot target = slotAt(to);
        if (s == null || target == null) {
            return NONE;
        }
        if (s.kind != RATIO) {
            return KIND;
        }
        if (which < 0 || which > 2 || s.isZero()) {
            return NONE;
        }
        room.empty();
        int v = terms.load(s);
        if (!sums.makeForm(terms.ratioOf(v))) {
            return LARGE;
        }
        return keep(terms.wrapped(which == 0 ? sums.formA : which == 1 ? sums.formB : sums.formC), target);
    }

    public int close(int slot, int to) {
        Slot s = slotAt(slot);
        Slot target = slotAt(to);
        if (s == null || target == null) {
            return NONE;
        }
        if (!isRatioOrTerm(s)) {
            return KIND;
        }
        if (s.isZero()) {
            return NONE;
        }
        room.empty();
        int code = sums.alone(terms.load(s));
        if (code == 0) {
            code = sums.answer();
        }
        if (room.full) {
            return LARGE;
        }
        return code < 0 ? code : keep(terms.wrapped(sums.made), target);
    }

    public int recur(int slot, int most, int to) {
        Slot s = slotAt(slot);
        Slot target = slotAt(to);
        if (s == null || target == null) {
            return NONE;
        }
        if (!isRatioOrTerm(s)) {
            return KIND;
        }
        if (most < 0 || most > 3 || s.isZero()) {
            return NONE;
        }
        room.empty();
        int code = sums.collect(terms.load(s), most) ? NONE : LARGE;
        for (int j = 0; j <= most && code == NONE; j++) {
            code = sums.attempt(j);
            if (code == 0) {
                code = sums.answer();
            }
        }
        if (room.full) {
            return LARGE;
        }
        if (code >= 0) {
            sums.save(target, code);
        }
        return code;
    }

    public int part(int slot, int part, int to) {
        Slot s = slotAt(slot);
        Slot target = slotAt(to);
        if (s == null || target == null) {
            return NONE;
        }
        if (s.kind != RECORD && s.kind != ROW) {
            return KIND;
        }
        if (part > s.order || part < (s.kind == RECORD ? -1 : 0)) {
            return NONE;
        }
        room.empty();
        int made = terms.open();
        if (part < 0) {
            planes.load(s.above);
            planes.load(s.below);
        } else {
            planes.loadStep(s, part);
            room.constant(1);
        }
        return keep(made, target);
    }

    public int check(int record, int slot) {
        Slot r = slotAt(record);
        Slot s = slotAt(slot);
        if (r == null || s == null) {
            return NONE;
        }
        if (r.kind != RECORD || !isRatioOrTerm(s)) {
            return KIND;
        }
        if (s.isZero()) {
            return NONE;
        }
        room.empty();
        boolean fit = sums.collect(terms.load(s), r.order);
        boolean right = fit && sums.isRight(r);
        return room.full || !fit ? LARGE : right ? 1 : 0;
    }

    public int poke(int record, int m, int i, int j, int v) {
        Slot r = slotAt(record);
        if (r == null) {
            return NONE;
        }
        if (r.kind != RECORD) {
            return KIND;
        }
        if (m < -1 || m > r.order || i < 0 || i > MOST_N || j < 0 || j > (m < 0 ? MOST_K : 0)) {
            return NONE;
        }
        int was = m < 0 ? r.ratioNumber(0, i, j) : r.stepNumber(m, i);
        if (m >= 0) {
            r.putStep(m, i, Numbers.rest(v));
            return was;
        }
        r.putAbove(i, j, Numbers.rest(v));
        room.empty();
        int q = ratios.reduced(planes.load(r.above), planes.load(r.below));
        planes.save(q, r.above);
        planes.save(ratios.under(q), r.below);
        return was;
    }

    public int holds(int record, int slot, int n, int low, int high) {
        Slot r = slotAt(record);
        Slot s = slotAt(slot);
        if (r == null || s == null) {
            return NONE;
        }
        if (r.kind != RECORD || !isRatioOrTerm(s)) {
            return KIND;
        }
        return sums.holdsBy(r, s, n, low, high);
    }

    // ---- rows

    public int row(int record, int to) {
        Slot r = slotAt(record);
        Slot target = slotAt(to);
        if (r == null || target == null) {
            return NONE;
        }
        if (r.kind != RECORD) {
            return KIND;
        }
        room.empty();
        return sequences.fromRecord(r, target);
    }

    public int first(int slot, int v) {
        Slot s = slotAt(slot);
        if (s == null) {
            return NONE;
        }
        if (s.kind != ROW) {
            return KIND;
        }
        return s.addFirst(Numbers.rest(v));
    }

    public int at(int slot, int i) {
        Slot s = slotAt(slot);
        if (s == null) {
            return NONE;
        }
        if (s.kind != ROW) {
            return KIND;
        }
        if (i < 0 || i > PLACES || s.has < s.needs) {
            return NONE;
        }
        return sequences.member(s, i);
    }

    public int join(int op, int a, int b, int to) {
        boolean two = op >= 0 && op <= 2;
        Slot s = slotAt(a);
        Slot t = two || op == 5 ? slotAt(b) : s;
        Slot target = slotAt(to);
        if (s == null || t == null || target == null) {
            return NONE;
        }
        if (s.kind != ROW || two && t.kind != ROW || op == 5 && !isFactor(t)) {
            return KIND;
        }
        if (op < 0 || op > 5 || s.has < s.needs || two && t.has < t.needs) {
            return NONE;
        }
        room.empty();
        if (op == 3 || op == 4) {
            return sequences.moved(op == 3, s, target);
        }
        return sequences.joined(op, s, t, target);
    }

    public int feed(int v) {
        if (fedCount < 0 || fedCount >= FED) {
            return LARGE;
        }
        fed[fedCount] = Numbers.rest(v);
        fedCount++;
        return fedCount;
    }

    public int clear() {
        int was = fedCount;
        fedCount = 0;
        return was;
    }

    public int guess(int to) {
        Slot target = slotAt(to);
        if (target == null) {
            return NONE;
        }
        room.empty();
        return sequences.guessed(fed, fedCount, target);
    }

    public int roots(int slot) {
        Slot s = slotAt(slot);
        if (s == null) {
            return NONE;
        }
        if (!isFactor(s)) {
            return KIND;
        }
        room.empty();
        foundCount = divisors.rootsOf(planes.load(s.above), found);
        return foundCount;
    }

    public int root(int i) {
        return i >= 0 && i < foundCount && i < MOST_N ? found[i] : NONE;
    }

    public int solve(int slot, int to) {
        Slot s = slotAt(slot);
        Slot target = slotAt(to);
        if (s == null || target == null) {
            return NONE;
        }
        if (s.kind != RECORD && s.kind != ROW) {
            return KIND;
        }
        if (s.order != 1) {
            return NONE;
        }
        room.empty();
        int v = terms.closed(planes.loadStep(s, 0), planes.loadStep(s, 1));
        return v < 0 ? NONE : keep(v, target);
    }

    // ---- helpers of the face

    private Slot slotAt(int slot) {
        return slot >= 0 && slot < SLOTS ? slots[slot] : null;
    }

    private static boolean isRatioOrTerm(Slot s) {
        return s.kind == RATIO || s.kind == TERM;
    }

    private static boolean isPolynomial(Slot s) {
        return s.kind == RATIO && s.isWhole();
    }

    /** A polynomial in n alone that is not 0. */
    private static boolean isFactor(Slot s) {
        return isPolynomial(s) && !s.isZero() && s.isFreeOfK();
    }

    /** A value that came goes into its slot; none came where it would be too large. */
    private int keep(int made, Slot target) {
        return made < 0 || room.full ? LARGE : terms.save(made, target);
    }

    /**
     * What one slot holds. A side of its ratio is a row: the degrees in n and k, then the numbers, with
     * place for 25 at each power of k; what lies above the degrees is 0.
     */
    static final class Slot {
        private static final int STRIDE = MOST_N + 1;
        private static final int PLANE = 2 + STRIDE * (MOST_K + 1);
        private static final int FACTS = 12;
        int kind;
        int x;
        int y;
        int factorials;
        int order;
        int needs;
        int has;
        final int[] facts;
        final int[] above;
        final int[] below;
        final int[] steps;
        final int[] firsts;

        Slot() {
            facts = new int[FACTS * 4];
            above = new int[PLANE];
            below = new int[PLANE];
            steps = new int[STRIDE * (MOST_ORDER + 1)];
            firsts = new int[MOST_FIRSTS];
        }

        void wipe() {
            kind = 0;
            x = 1;
            y = 1;
            factorials = 0;
            order = 0;
            needs = 0;
            has = 0;
        }

        int fact(int i, int what) {
            return i >= 0 && i < FACTS && what >= 0 && what < 4 ? facts[i * 4 + what] : 0;
        }

        int ratioNumber(int which, int i, int j) {
            if (i < 0 || i > MOST_N || j < 0 || j > MOST_K) {
                return 0;
            }
            return which == 0 ? above[2 + j * STRIDE + i] : below[2 + j * STRIDE + i];
        }

        int wide(int which) {
            return Math.min(which == 0 ? above[0] : below[0], MOST_N);
        }

        int tall(int which) {
            return Math.min(which == 0 ? above[1] : below[1], MOST_K);
        }

        /** The numerator gets another number; its degrees may be told too great then. */
        void putAbove(int i, int j, int v) {
            if (i >= 0 && i <= MOST_N && j >= 0 && j <= MOST_K) {
                above[0] = Math.max(above[0], i);
                above[1] = Math.max(above[1], j);
                above[2 + j * STRIDE + i] = v;
            }
        }

        int stepNumber(int m, int i) {
            return m < 0 || m > MOST_ORDER || i < 0 || i > MOST_N ? 0 : steps[m * STRIDE + i];
        }

        void putStep(int m, int i, int v) {
            if (m >= 0 && m <= MOST_ORDER && i >= 0 && i <= MOST_N) {
                steps[m * STRIDE + i] = v;
            }
        }

        /** a_m at a number n. */
        int stepAt(int m, int n) {
            long sum = 0;
            if (m >= 0 && m <= MOST_ORDER) {
                for (int i = MOST_N; i >= 0; i--) {
                    sum = (sum * n + steps[m * STRIDE + i]) % P;
                }
            }
            return (int) sum;
        }

        /** The numerator or denominator at numbers n, k. */
        int sideAt(int which, int n, int k) {
            long sum = 0;
            for (int j = tall(which); j >= 0; j--) {
                long row = 0;
                for (int i = wide(which); i >= 0; i--) {
                    row = (row * n + ratioNumber(which, i, j)) % P;
                }
                sum = (sum * k + row) % P;
            }
            return (int) sum;
        }

        boolean isZero() {
            return kind == RATIO && above[0] == 0 && above[1] == 0 && above[2] == 0;
        }

        /** Whether the denominator is 1. */
        boolean isWhole() {
            return below[0] == 0 && below[1] == 0 && below[2] == 1;
        }

        boolean isFreeOfK() {
            return above[1] == 0;
        }

        int addFirst(int v) {
            if (has >= needs || has < 0 || has >= MOST_FIRSTS) {
                return NONE;
            }
            firsts[has] = v;
            has++;
            return has;
        }
    }

    /** Numbers 0 .. P - 1. */
    static final class Numbers {
        static int rest(long v) {
            long r = v % P;
            return (int) (r < 0 ? r + P : r);
        }

        static int plus(int a, int b) {
            return (int) (((long) a + b) % P);
        }

        static int minus(int a, int b) {
            return (int) (((long) a + P - b) % P);
        }

        static int times(int a, int b) {
            return (int) ((long) a * b % P);
        }

        static int small(int a) {
            return a <= 1073741823 ? a : a - P;
        }

        /** a to the power e, by Fermat also for e below 0 and a not 0. */
        static int power(int a, int e) {
            long left = e < 0 ? e % (P - 1) + (P - 1) : e;
            long made = 1;
            long square = a;
            for (int bit = 0; bit < 32 && left >> bit > 0; bit++) {
                if ((left >> bit & 1) == 1) {
                    made = made * square % P;
                }
                square = square * square % P;
            }
            return (int) made;
        }

        /** 1 by a, by Euclid; 0 for 0. */
        static int inverse(int a) {
            long high = P;
            long low = a;
            long before = 0;
            long now = 1;
            for (int turn = 0; turn < 64 && low != 0; turn++) {
                long q = high / low;
                long rest = high - q * low;
                high = low;
                low = rest;
                long next = before - q * now;
                before = now;
                now = next;
            }
            return a == 0 ? 0 : (int) (before < 0 ? before + P : before);
        }
    }

    /**
     * The house's own memory for what is worked on. Blocks are taken from the bottom up; a call gives
     * back what it took but its answer. A POLYNOMIAL is a block: its degree in n, that in k, then its
     * numbers, the rows of k^0, k^1 .. after each other; the degrees are always the true ones.
     */
    static final class Room {
        private static final int SIZE = 131072;
        /** Below it lies the polynomial 0 and what is never written: blocks for which there is no room. */
        private static final int BOTTOM = 2048;
        private static final int WIDEST = 8000;
        private final int[] cells;
        int top;
        boolean full;

        Room() {
            cells = new int[SIZE];
            top = BOTTOM;
            full = false;
        }

        void empty() {
            top = BOTTOM;
            full = false;
        }

        int get(int at) {
            return at >= 0 && at < SIZE ? cells[at] : 0;
        }

        void put(int at, int v) {
            if (at >= BOTTOM && at < SIZE) {
                cells[at] = v;
            }
        }

        /** A row of zeros, or 0 (where the polynomial 0 lies, which stays so) when there is no room. */
        int take(int size) {
            if (size < 0 || size > SIZE - top) {
                full = true;
                return 0;
            }
            int at = top;
            top += size;
            for (int i = at; i < top; i++) {
                cells[i] = 0;
            }
            return at;
        }

        void release(int mark) {
            if (mark >= BOTTOM && mark <= top) {
                top = mark;
            }
        }

        // ---- polynomials

        /** A polynomial of these degrees, all 0 yet; the one at 0 when there is no room. */
        int block(int wide, int tall) {
            if (wide < 0 || tall < 0 || wide > WIDEST || tall > WIDEST
                    || 2 + (wide + 1) * (tall + 1) > SIZE - top) {
                full = true;
                return 0;
            }
            int at = top;
            top += 2 + (wide + 1) * (tall + 1);
            for (int i = at; i < top; i++) {
                cells[i] = 0;
            }
            cells[at] = wide;
            cells[at + 1] = tall;
            return at;
        }

        int constant(int v) {
            if (SIZE - top < 3) {
                full = true;
                return 0;
            }
            cells[top] = 0;
            cells[top + 1] = 0;
            cells[top + 2] = v;
            top += 3;
            return top - 3;
        }

        int width(int p) {
            return p >= 0 && p < SIZE - 2 ? cells[p] : 0;
        }

        int height(int p) {
            return p >= 0 && p < SIZE - 2 ? cells[p + 1] : 0;
        }

        /** How many cells a polynomial takes. */
        int span(int p) {
            return p >= 0 && p < SIZE - 2 ? 2 + (cells[p] + 1) * (cells[p + 1] + 1) : 0;
        }

        /** Where the numbers at k^j lie. */
        int rowOf(int p, int j) {
            return p >= 0 && p < SIZE - 2 ? p + 2 + j * (cells[p] + 1) : 0;
        }

        boolean isNumber(int p) {
            return p >= 0 && p < SIZE - 2 && cells[p] == 0 && cells[p + 1] == 0;
        }

        boolean isZero(int p) {
            return p >= 0 && p < SIZE - 2 && cells[p] == 0 && cells[p + 1] == 0 && cells[p + 2] == 0;
        }

        /** The number at the greatest power of k, and there at the greatest one of n. */
        int head(int p) {
            if (p < 0 || p >= SIZE - 2) {
                return 0;
            }
            int row = p + 2 + cells[p + 1] * (cells[p] + 1);
            for (int i = row + cells[p]; i >= row; i--) {
                if (i >= 0 && i < SIZE && cells[i] != 0) {
                    return cells[i];
                }
            }
            return 0;
        }

        /** A polynomial goes down to mark; what lies above it is given back. */
        int settle(int mark, int p) {
            if (p < mark || mark < BOTTOM || p >= SIZE - 2) {
                return p;
            }
            int size = 2 + (cells[p] + 1) * (cells[p + 1] + 1);
            for (int i = 0; i < size && p + i < SIZE; i++) {
                cells[mark + i] = cells[p + i];
            }
            top = size < 3 || size > SIZE - mark ? mark : mark + size;
            return mark;
        }

        int copy(int p) {
            int size = p >= 0 && p < SIZE - 2 ? 2 + (cells[p] + 1) * (cells[p + 1] + 1) : 0;
            if (size < 3 || size > SIZE - top || p > SIZE - size) {
                full = true;
                return 0;
            }
            int made = top;
            for (int i = 0; i < size; i++) {
                cells[made + i] = cells[p + i];
            }
            top = made + size;
            return made;
        }

        /** The degrees become the true ones, the numbers moving together; p is the topmost block. */
        void trim(int p) {
            if (p < BOTTOM || p >= SIZE - 2 || cells[p] < 0) {
                return;
            }
            int row = cells[p] + 1;
            int size = row * (cells[p + 1] + 1);
            int wide = 0;
            int tall = 0;
            for (int i = 0; i < size && p + 2 + i < SIZE; i++) {
                if (cells[p + 2 + i] != 0) {
                    tall = i / row;
                    wide = i % row > wide ? i % row : wide;
                }
            }
            for (int j = 0; j <= tall; j++) {
                for (int i = 0; i <= wide && p + 2 + j * row + i < SIZE; i++) {
                    cells[p + 2 + j * (wide + 1) + i] = cells[p + 2 + j * row + i];
                }
            }
            cells[p] = wide;
            cells[p + 1] = tall;
            top = p + 2 + (wide + 1) * (tall + 1);
        }

        /** A polynomial in n alone becomes one of this degree (-1: of 0), the topmost block. */
        void clip(int p, int degree) {
            int wide = degree < 0 ? 0 : degree;
            if (p >= BOTTOM && p < SIZE - 2 - wide) {
                cells[p] = wide;
                cells[p + 2] = degree < 0 ? 0 : cells[p + 2];
                top = p + 3 + wide;
            }
        }

        // ---- rows

        /** Cells go to another place, which may overlap with theirs only if it lies lower. */
        void move(int from, int to, int size) {
            if (from < 0 || to < BOTTOM || size < 0 || from > SIZE - size || to > SIZE - size) {
                return;
            }
            for (int i = 0; i < size; i++) {
                cells[to + i] = cells[from + i];
            }
        }

        void addTimes(int to, int from, int size, int c) {
            if (from < 0 || to < BOTTOM || size < 0 || from > SIZE - size || to > SIZE - size) {
                return;
            }
            for (int i = 0; i < size; i++) {
                cells[to + i] = (int) ((cells[to + i] + (long) c * cells[from + i]) % P);
            }
        }

        void scale(int at, int size, int c) {
            if (at < BOTTOM || size < 0 || at > SIZE - size) {
                return;
            }
            for (int i = at; i < at + size; i++) {
                cells[i] = (int) ((long) c * cells[i] % P);
            }
        }

        /** The last place of a row that is not 0, -1 if all are. */
        int lastOf(int at, int size) {
            if (at < 0 || size < 0 || at > SIZE - size) {
                return -1;
            }
            int last = size - 1;
            while (last >= 0 && cells[at + last] == 0) {
                last--;
            }
            return last;
        }

        /** The row as a polynomial's numbers, at the number x. */
        int horner(int at, int size, int x) {
            if (at < 0 || size < 0 || at > SIZE - size) {
                return 0;
            }
            long sum = 0;
            for (int i = at + size - 1; i >= at; i--) {
                sum = (sum * x + cells[i]) % P;
            }
            return (int) sum;
        }

        /**
         * The greatest common divisor of two rows as polynomials of degrees dp and dq (-1 for 0): its
         * degree; it lies at p then, up to a factor. By cross products, so that nothing is divided.
         */
        int common(int p, int dp, int q, int dq) {
            if (p < BOTTOM || q < BOTTOM || dp < -1 || dq < -1 || p > SIZE - 1 - dp || q > SIZE - 1 - dq) {
                return -1;
            }
            int a = p;
            int da = dp;
            int b = q;
            int db = dq;
            for (int turn = 0; turn <= dp + dq + 3 && db >= 0; turn++) {
                long lead = cells[b + db];
                for (int s = da - db; s >= 0; s--) {
                    long c = P - cells[a + s + db];
                    for (int i = 0; i < s && c != P; i++) {
                        cells[a + i] = (int) (lead * cells[a + i] % P);
                    }
                    for (int i = 0; i <= db && c != P; i++) {
                        cells[a + s + i] = (int) ((lead * cells[a + s + i] % P + c * cells[b + i]) % P);
                    }
                }
                int rest = da < db ? da : db - 1;
                while (rest >= 0 && cells[a + rest] == 0) {
                    rest--;
                }
                int place = a;
                a = b;
                da = db;
                b = place;
                db = rest;
            }
            for (int i = 0; i <= da && a != p && p + i < SIZE; i++) {
                cells[p + i] = cells[a + i];
            }
            return da;
        }

        /**
         * The row p of degree dp by the row q of degree dq, inv being 1 by q's head: the quotient goes
         * to another row, what is left stays at p; whether nothing is left.
         */
        boolean divide(int p, int dp, int q, int dq, int to, int inv) {
            if (p < BOTTOM || q < BOTTOM || to < BOTTOM || dp < 0 || dq < 0 || p >= SIZE - dp
                    || q >= SIZE - dq || to >= SIZE - dp) {
                return false;
            }
            for (int s = dp - dq; s >= 0; s--) {
                int c = (int) ((long) cells[p + s + dq] * inv % P);
                cells[to + s] = c;
                long minus = P - c;
                for (int i = 0; c != 0 && i <= dq; i++) {
                    cells[p + s + i] = (int) ((cells[p + s + i] + minus * cells[q + i]) % P);
                }
            }
            boolean nothing = true;
            for (int i = 0; i <= dp; i++) {
                nothing = nothing && cells[p + i] == 0;
            }
            return nothing;
        }

        /** The resultant of the rows f and g of degrees m and n, 0 and more; both are spent. */
        int resultant(int f, int m, int g, int n) {
            if (f < BOTTOM || g < BOTTOM || m < 0 || n < 0 || f >= SIZE - m || g >= SIZE - n) {
                return 0;
            }
            int a = f;
            int da = m;
            int b = g;
            int db = n;
            int made = 1;
            for (int turn = 0; turn <= m + n + 3 && db > 0; turn++) {
                long inv = Numbers.inverse(cells[b + db]);
                for (int s = da - db; s >= 0; s--) {
                    long c = P - cells[a + s + db] * inv % P;
                    for (int i = 0; i <= db; i++) {
                        cells[a + s + i] = (int) ((cells[a + s + i] + c * cells[b + i]) % P);
                    }
                }
                int rest = da < db ? da : lastOf(a, db);
                if (rest < 0) {
                    return 0;
                }
                made = Numbers.times(made, Numbers.power(cells[b + db], da - rest));
                made = da % 2 == 1 && db % 2 == 1 ? Numbers.minus(0, made) : made;
                int place = a;
                a = b;
                da = db;
                b = place;
                db = rest;
            }
            return Numbers.times(made, Numbers.power(cells[b], da));
        }

        /*
         * WEAVING: polynomials in one letter are found from their values at points, one point after the
         * other (Newton). A block: how many, for how many points there is place, how many there were;
         * the product of (letter - point); the polynomials so far.
         */

        int weaveStart(int rows, int most) {
            if (rows < 0 || most < 0 || rows > WIDEST || most > WIDEST) {
                full = true;
                return 0;
            }
            int w = take(3 + most + 1 + rows * most);
            put(w, rows);
            put(w + 1, most);
            put(w + 3, 1);
            return w;
        }

        void weaveAgain(int w) {
            int size = get(w + 1) + 1 + get(w) * get(w + 1);
            for (int i = w + 2; i < w + 3 + size; i++) {
                put(i, 0);
            }
            put(w + 3, 1);
        }

        /** One more point x, with as many values as there are rows: whether that changed one. */
        boolean weave(int w, int x, int values, int rows) {
            int most = get(w + 1);
            int had = get(w + 2);
            int base = w + 3;
            if (w < BOTTOM || rows > get(w) || had >= most || base >= SIZE - most - rows * most) {
                return true;
            }
            int inv = Numbers.inverse(horner(base, had + 1, x));
            boolean changed = false;
            for (int r = 0; r < rows; r++) {
                int row = base + most + 1 + r * most;
                int off = Numbers.minus(get(values + r), horner(row, had, x));
                if (off != 0) {
                    changed = true;
                    addTimes(row, base, had + 1, Numbers.times(off, inv));
                }
            }
            long minus = P - x;
            for (int i = had + 1; i > 0; i--) {
                cells[base + i] = (int) ((cells[base + i - 1] + minus * cells[base + i]) % P);
            }
            cells[base] = (int) (minus * cells[base] % P);
            put(w + 2, had + 1);
            return changed;
        }

        /** Polynomial r of what is woven: where its numbers lie, as many as there were points. */
        int wovenRow(int w, int r) {
            return w + 3 + get(w + 1) + 1 + r * get(w + 1);
        }
    }

    /** Polynomials in n and k. What a call answers lies where the free memory began. */
    static final class Planes {
        private final Room room;

        Planes(Room room) {
            this.room = room;
        }

        int cell(int p, int i, int j) {
            return i < 0 || j < 0 || i > room.width(p) || j > room.height(p) ? 0 : room.get(room.rowOf(p, j) + i);
        }

        /** a n + b k + c. */
        int linear(int a, int b, int c) {
            int p = room.block(a == 0 ? 0 : 1, b == 0 ? 0 : 1);
            if (a != 0) {
                room.put(p + 3, Numbers.rest(a));
            }
            if (b != 0) {
                room.put(room.rowOf(p, 1), Numbers.rest(b));
            }
            room.put(p + 2, Numbers.rest(c));
            return p;
        }

        /** Two polynomials, a lying lower than b, go down to mark, b behind a. */
        int pair(int mark, int a, int b) {
            int sizeA = room.span(a);
            int sizeB = room.span(b);
            room.move(a, mark, sizeA);
            room.move(b, mark + sizeA, sizeB);
            room.release(mark + sizeA + sizeB);
            return mark;
        }

        /** A side of what a slot has. */
        int load(int[] side) {
            int wide = Math.min(side.length > 1 ? side[0] : 0, MOST_N);
            int tall = Math.min(side.length > 1 ? side[1] : 0, MOST_K);
            int p = room.block(wide, tall);
            for (int j = 0; j <= tall; j++) {
                int from = 2 + j * Slot.STRIDE;
                for (int i = 0; i <= wide && from + i < side.length; i++) {
                    room.put(room.rowOf(p, j) + i, side[from + i]);
                }
            }
            room.trim(p);
            return p;
        }

        void save(int p, int[] side) {
            for (int i = 0; i < side.length; i++) {
                side[i] = 0;
            }
            if (side.length < 2) {
                return;
            }
            side[0] = Math.min(room.width(p), MOST_N);
            side[1] = Math.min(room.height(p), MOST_K);
            for (int j = 0; j <= side[1]; j++) {
                int to = 2 + j * Slot.STRIDE;
                for (int i = 0; i <= side[0] && to + i < side.length; i++) {
                    side[to + i] = room.get(room.rowOf(p, j) + i);
                }
            }
        }

        /** a_m of what a slot has. */
        int loadStep(Slot s, int m) {
            int wide = 0;
            for (int i = 0; i <= MOST_N; i++) {
                if (s.stepNumber(m, i) != 0) {
                    wide = i;
                }
            }
            int p = room.block(wide, 0);
            for (int i = 0; i <= wide; i++) {
                room.put(p + 2 + i, s.stepNumber(m, i));
            }
            return p;
        }

        void saveStep(int p, Slot s, int m) {
            for (int i = 0; i <= MOST_N; i++) {
                s.putStep(m, i, cell(p, i, 0));
            }
        }

        /** The number at k^j as a polynomial in n. */
        int slice(int p, int j) {
            int made = room.block(room.width(p), 0);
            if (j >= 0 && j <= room.height(p)) {
                room.move(room.rowOf(p, j), made + 2, room.span(made) - 2);
            }
            room.trim(made);
            return made;
        }

        /** A polynomial as one that is monic along k: itself by the number at its greatest k^j. */
        int monic(int p) {
            int made = room.copy(p);
            slice(p, room.height(p));
            return made;
        }

        /** By a number that is not 0. */
        void scale(int p, int c) {
            room.scale(p + 2, room.span(p) - 2, c);
        }

        /** a + c b. */
        int plus(int a, int b, int c) {
            int p = room.block(Math.max(room.width(a), room.width(b)), Math.max(room.height(a), room.height(b)));
            if (p == 0) {
                return 0;
            }
            for (int j = 0; j <= room.height(a); j++) {
                room.move(room.rowOf(a, j), room.rowOf(p, j), room.width(a) + 1);
            }
            for (int j = 0; j <= room.height(b); j++) {
                room.addTimes(room.rowOf(p, j), room.rowOf(b, j), room.width(b) + 1, c);
            }
            room.trim(p);
            return p;
        }

        int times(int a, int b) {
            if (room.isZero(a) || room.isZero(b)) {
                return room.block(0, 0);
            }
            int p = room.block(room.width(a) + room.width(b), room.height(a) + room.height(b));
            if (p == 0) {
                return 0;
            }
            int wide = room.width(b) + 1;
            for (int ja = 0; ja <= room.height(a); ja++) {
                for (int ia = 0; ia <= room.width(a); ia++) {
                    int c = room.get(room.rowOf(a, ja) + ia);
                    for (int jb = 0; c != 0 && jb <= room.height(b); jb++) {
                        room.addTimes(room.rowOf(p, ja + jb) + ia, room.rowOf(b, jb), wide, c);
                    }
                }
            }
            return p;
        }

        /** k + v for k, in place. */
        void slideK(int p, int v) {
            int t = room.height(p);
            for (int s = 0; s < t && v != 0; s++) {
                for (int j = t - 1; j >= s; j--) {
                    room.addTimes(room.rowOf(p, j), room.rowOf(p, j + 1), room.width(p) + 1, v);
                }
            }
        }

        /** n + v for n, in place. */
        void slideN(int p, int v) {
            int w = room.width(p);
            for (int j = 0; j <= room.height(p) && v != 0; j++) {
                int row = room.rowOf(p, j);
                for (int s = 0; s < w; s++) {
                    for (int i = w - 1; i >= s; i--) {
                        room.addTimes(row + i, row + i + 1, 1, v);
                    }
                }
            }
        }

        void slide(int p, int way, int v) {
            if (way == 0) {
                slideN(p, v);
            } else {
                slideK(p, v);
            }
        }

        /** The numbers at k^0 .. of a polynomial at a number n go to a row of cells. */
        void atN(int p, int x, int to) {
            for (int j = 0; j <= room.height(p); j++) {
                room.put(to + j, room.horner(room.rowOf(p, j), room.width(p) + 1, x));
            }
        }

        int withN(int p, int x) {
            int made = room.block(0, room.height(p));
            atN(p, x, made + 2);
            room.trim(made);
            return made;
        }

        int withK(int p, int x) {
            int made = room.block(room.width(p), 0);
            int power = 1;
            for (int j = 0; j <= room.height(p); j++) {
                room.addTimes(made + 2, room.rowOf(p, j), room.width(p) + 1, power);
                power = Numbers.times(power, x);
            }
            room.trim(made);
            return made;
        }

        int derivative(int p, boolean alongN) {
            int made = room.block(room.width(p), room.height(p));
            for (int j = 0; j <= room.height(p); j++) {
                for (int i = 0; i <= room.width(p); i++) {
                    int by = alongN ? i + 1 : j + 1;
                    int from = alongN ? cell(p, i + 1, j) : cell(p, i, j + 1);
                    room.put(room.rowOf(made, j) + i, Numbers.times(by, from));
                }
            }
            room.trim(made);
            return made;
        }

        /** n for k and k for n. */
        int turned(int p) {
            int made = room.block(room.height(p), room.width(p));
            for (int j = 0; j <= room.height(p); j++) {
                for (int i = 0; i <= room.width(p); i++) {
                    room.put(room.rowOf(made, i) + j, cell(p, i, j));
                }
            }
            return made;
        }

        /** a by b (not 0), where nothing is left; -1 otherwise. */
        int divide(int a, int b) {
            int wide = room.width(a) - room.width(b);
            int tall = room.height(a) - room.height(b);
            if (room.isZero(a)) {
                return room.block(0, 0);
            }
            if (wide < 0 || tall < 0) {
                return -1;
            }
            int mark = room.top;
            int made = room.block(wide, tall);
            int rest = room.block(room.width(a), room.height(a));
            room.move(a + 2, rest + 2, room.span(rest) - 2);
            int lead = room.rowOf(b, room.height(b));
            int degree = room.lastOf(lead, room.width(b) + 1);
            boolean exact = made > 0 && rest > 0 && degree >= 0;
            int inv = Numbers.inverse(room.get(lead + degree));
            for (int j = tall; j >= 0 && exact; j--) {
                int row = room.rowOf(rest, j + room.height(b));
                int had = room.lastOf(row, room.width(a) + 1);
                int to = room.rowOf(made, j);
                exact = had < 0 || had - degree <= wide && room.divide(row, had, lead, degree, to, inv);
                for (int i = 0; i <= had - degree && exact; i++) {
                    int c = room.get(to + i);
                    for (int l = 0; c != 0 && l < room.height(b); l++) {
                        room.addTimes(room.rowOf(rest, j + l) + i, room.rowOf(b, l), room.width(b) + 1, P - c);
                    }
                }
            }
            if (!exact || room.lastOf(rest + 2, room.span(rest) - 2) >= 0) {
                room.release(mark);
                return -1;
            }
            room.release(rest);
            return made;
        }
    }

    /** Divisors, resultants and roots of polynomials. */
    static final class Divisors {
        /** Where points begin: far from the small numbers, at which much is 0. */
        private static final int START = 1234567;
        private static final int POINTS = 100000;
        private static final int SPLITS = 1000000;
        private final Room room;
        private final Planes planes;
        private final int[] from;
        private final int[] degrees;
        private final int[] once;

        Divisors(Room room, Planes planes) {
            this.room = room;
            this.planes = planes;
            from = new int[4 * MOST_N];
            degrees = new int[4 * MOST_N];
            once = new int[MOST_N];
        }

        /** The monic greatest common divisor of two polynomials in n alone; 0 of two 0. */
        int single(int a, int b) {
            int most = Math.max(room.width(a), room.width(b));
            int made = room.block(most, 0);
            int other = room.take(most + 1);
            room.move(a + 2, made + 2, room.width(a) + 1);
            room.move(b + 2, other, room.width(b) + 1);
            int degree = room.common(made + 2, room.lastOf(made + 2, most + 1), other, room.lastOf(other, most + 1));
            room.scale(made + 2, degree + 1, Numbers.inverse(room.get(made + 2 + degree)));
            room.clip(made, degree);
            return made;
        }

        /** The greatest divisor in n alone, monic; 0 of 0. */
        int content(int p) {
            int size = room.width(p) + 1;
            int made = room.block(size - 1, 0);
            int one = room.take(size);
            int degree = -1;
            for (int j = room.height(p); j >= 0 && degree != 0; j--) {
                room.move(room.rowOf(p, j), one, size);
                degree = room.common(made + 2, degree, one, room.lastOf(one, size));
            }
            room.scale(made + 2, degree + 1, Numbers.inverse(room.get(made + 2 + degree)));
            room.clip(made, degree);
            return made;
        }

        /** A polynomial without its greatest divisor in n alone. */
        int primitive(int p) {
            int mark = room.top;
            int c = content(p);
            int made = room.isNumber(c) ? room.copy(p) : planes.divide(p, c);
            return room.settle(mark, made);
        }

        /** The greatest common divisor, its head 1; 0 of two 0. */
        int gcd(int a, int b) {
            int mark = room.top;
            if (room.isZero(a) || room.isZero(b)) {
                int one = room.copy(room.isZero(a) ? b : a);
                planes.scale(one, Numbers.inverse(room.head(one)));
                return one;
            }
            if (room.isNumber(a) || room.isNumber(b)) {
                return room.constant(1);
            }
            if (room.height(a) == 0 && room.height(b) == 0) {
                return single(a, b);
            }
            int made = single(content(a), content(b));
            if (room.height(a) > 0 && room.height(b) > 0) {
                made = planes.times(made, lift(primitive(a), primitive(b)));
                planes.scale(made, Numbers.inverse(room.head(made)));
            }
            return room.settle(mark, made);
        }

        /**
         * The greatest common divisor, its head 1, of two polynomials that have k and no divisor in n
         * alone: woven from those at numbers n, and tried as a divisor when a point has changed nothing.
         */
        int lift(int a, int b) {
            int mark = room.top;
            int ta = room.height(a);
            int tb = room.height(b);
            int lead = single(planes.slice(a, ta), planes.slice(b, tb));
            int bound = room.width(lead) + Math.min(room.width(a), room.width(b)) + 1;
            int p = room.take(ta + 1);
            int q = room.take(tb + 1);
            int w = room.weaveStart(Math.min(ta, tb) + 1, bound);
            int least = Math.min(ta, tb) + 1;
            for (int x = START; x < START + POINTS && !room.full; x++) {
                planes.atN(a, x, p);
                planes.atN(b, x, q);
                if (room.get(p + ta) == 0 || room.get(q + tb) == 0) {
                    continue;
                }
                int degree = room.common(p, ta, q, tb);
                if (degree <= 0) {
                    room.release(mark);
                    return room.constant(1);
                }
                if (degree > least) {
                    continue;
                }
                if (degree < least || room.get(w + 2) >= bound) {
                    least = degree;
                    room.weaveAgain(w);
                }
                int factor = Numbers.inverse(room.get(p + degree));
                room.scale(p, degree + 1, Numbers.times(factor, room.horner(lead + 2, room.width(lead) + 1, x)));
                boolean changed = room.weave(w, x, p, degree + 1);
                if (!changed || room.get(w + 2) >= bound) {
                    int made = tried(w, degree, a, b);
                    if (made >= 0) {
                        return room.settle(mark, made);
                    }
                }
            }
            room.release(mark);
            return room.constant(1);
        }

        /** What is woven, without divisors in n alone, if it divides both; -1 otherwise. */
        private int tried(int w, int degree, int a, int b) {
            int mark = room.top;
            int points = room.get(w + 2);
            int whole = room.block(Math.max(points - 1, 0), degree);
            for (int j = 0; j <= degree; j++) {
                room.move(room.wovenRow(w, j), room.rowOf(whole, j), points);
            }
            room.trim(whole);
            int made = room.isZero(whole) ? -1 : planes.divide(whole, content(whole));
            if (made < 0 || planes.divide(a, made) < 0 || planes.divide(b, made) < 0) {
                room.release(mark);
                return -1;
            }
            planes.scale(made, Numbers.inverse(room.head(made)));
            return made;
        }

        /** The resultant along k, a polynomial in n. */
        int resultant(int a, int b) {
            int ta = room.height(a);
            int tb = room.height(b);
            if (room.isZero(a) || room.isZero(b)) {
                return room.constant(0);
            }
            int mark = room.top;
            int bound = tb * room.width(a) + ta * room.width(b) + 1;
            int p = room.take(ta + 1);
            int q = room.take(tb + 1);
            int made = room.take(1);
            int w = room.weaveStart(1, bound);
            for (int x = START; x < START + POINTS && room.get(w + 2) < bound && !room.full; x++) {
                planes.atN(a, x, p);
                planes.atN(b, x, q);
                if (room.get(p + ta) != 0 && room.get(q + tb) != 0) {
                    room.put(made, room.resultant(p, ta, q, tb));
                    room.weave(w, x, made, 1);
                }
            }
            return room.settle(mark, woven(w, 0));
        }

        private int woven(int w, int r) {
            int points = room.get(w + 2);
            int made = room.block(Math.max(points - 1, 0), 0);
            room.move(room.wovenRow(w, r), made + 2, points);
            room.trim(made);
            return made;
        }

        /**
         * Polynomials in n alone lose their common divisor, and the head of the last one (which is
         * not 0) becomes 1: what they all were divided by.
         */
        int cleaned(int[] family, int count) {
            int all = room.constant(0);
            for (int i = 0; i < count && i < family.length; i++) {
                all = single(all, family[i]);
            }
            int last = count > 0 && count <= family.length ? family[count - 1] : 0;
            planes.scale(all, room.head(last));
            for (int i = 0; i < count && i < family.length; i++) {
                family[i] = room.isZero(all) ? family[i] : planes.divide(family[i], all);
            }
            return all;
        }

        // ---- roots

        /** All roots of a polynomial in n alone that is not 0, rising, each as often as it is one. */
        int rootsOf(int p, int[] found) {
            int degree = room.width(p);
            int f = p + 2;
            if (degree < 1) {
                return 0;
            }
            room.scale(f, degree + 1, Numbers.inverse(room.get(f + degree)));
            int once = distinct(f, degree);
            int many = 0;
            int size = once;
            for (int i = 0; i < size; i++) {
                int x = lowest(size, i);
                for (int turn = 0; turn <= MOST_N && many < found.length && isRoot(f, degree, x); turn++) {
                    found[many] = x;
                    many++;
                    degree--;
                }
            }
            return many;
        }

        /** The lowest of the roots from place i on comes to place i. */
        private int lowest(int size, int i) {
            int best = i;
            for (int l = i + 1; l < size && l < once.length; l++) {
                if (once[l] < once[best]) {
                    best = l;
                }
            }
            int x = once[best];
            once[best] = once[i];
            once[i] = x;
            return x;
        }

        /** Whether x is a root of the row f; if so, f is divided by n - x. */
        boolean isRoot(int f, int degree, int x) {
            if (degree < 1 || room.horner(f, degree + 1, x) != 0) {
                return false;
            }
            int carry = room.get(f + degree);
            room.put(f + degree, 0);
            for (int i = degree - 1; i >= 0; i--) {
                int next = Numbers.plus(room.get(f + i), Numbers.times(x, carry));
                room.put(f + i, carry);
                carry = next;
            }
            return true;
        }

        /** The different roots of the monic row f: how many. */
        private int distinct(int f, int degree) {
            int g = room.take(degree + 1);
            int h = room.take(2 * degree + 2);
            room.move(f, g, degree + 1);
            // every number is a root of n^P - n, and once
            powerOf(h, 0, P, f, degree);
            room.put(h + 1, Numbers.minus(room.get(h + 1), 1));
            int d = room.common(g, degree, h, room.lastOf(h, Math.max(degree, 2)));
            int open = 0;
            int many = 0;
            if (d > 0) {
                from[0] = g;
                degrees[0] = d;
                open = 1;
            }
            for (int turn = 0; turn < SPLITS && open > 0 && open < from.length && many < once.length; turn++) {
                int u = from[open - 1];
                int du = degrees[open - 1];
                room.scale(u, du + 1, Numbers.inverse(room.get(u + du)));
                if (du == 1) {
                    once[many] = Numbers.minus(0, room.get(u));
                    many++;
                    open--;
                } else {
                    open += split(u, du, turn, open);
                }
            }
            return many;
        }

        /** Parts the row u where n + shift is a square at some roots and not at others: 1 if it did. */
        private int split(int u, int du, int shift, int open) {
            int mark = room.top;
            int part = room.take(du + 1);
            int rest = room.take(du + 1);
            int all = room.take(du + 1);
            int power = room.take(2 * du + 2);
            powerOf(power, shift, P / 2, u, du);
            room.put(power, Numbers.minus(room.get(power), 1));
            room.move(u, part, du + 1);
            int d = room.common(part, du, power, room.lastOf(power, du));
            if (d <= 0 || d >= du || open < 1 || open >= from.length) {
                room.release(mark);
                return 0;
            }
            room.move(u, all, du + 1);
            room.divide(all, du, part, d, rest, Numbers.inverse(room.get(part + d)));
            from[open - 1] = part;
            degrees[open - 1] = d;
            from[open] = rest;
            degrees[open] = du - d;
            return 1;
        }

        /** (n + shift)^e by the monic row f of degree d: what is left goes to a row of 2 d and more. */
        private void powerOf(int to, int shift, int e, int f, int d) {
            int mark = room.top;
            int product = room.take(2 * d + 1);
            room.put(to, 1);
            for (int bit = 30; bit >= 0; bit--) {
                square(to, product, f, d);
                if ((e >> bit & 1) == 1) {
                    int minus = Numbers.minus(0, room.get(to + d - 1));
                    for (int i = d - 1; i >= 0; i--) {
                        int below = i > 0 ? room.get(to + i - 1) : 0;
                        int sum = Numbers.plus(below, Numbers.times(shift, room.get(to + i)));
                        room.put(to + i, Numbers.plus(sum, Numbers.times(minus, room.get(f + i))));
                    }
                }
            }
            room.release(mark);
        }

        private void square(int to, int product, int f, int d) {
            for (int i = 0; i <= 2 * d; i++) {
                room.put(product + i, 0);
            }
            for (int i = 0; i < d; i++) {
                room.addTimes(product + i, to, d, room.get(to + i));
            }
            for (int i = 2 * d - 2; i >= d; i--) {
                room.addTimes(product + i - d, f, d + 1, Numbers.minus(0, room.get(product + i)));
            }
            room.move(product, to, d);
        }
    }

    /** Ratios: two polynomials after each other, without a common divisor, the lower one's head 1. */
    static final class Ratios {
        private final Room room;
        private final Planes planes;
        private final Divisors divisors;

        Ratios(Room room, Planes planes, Divisors divisors) {
            this.room = room;
            this.planes = planes;
            this.divisors = divisors;
        }

        /** The denominator. */
        int under(int q) {
            return q + room.span(q);
        }

        boolean fits(int q) {
            return isWithin(q, MOST_N, MOST_K);
        }

        boolean isWithin(int q, int wide, int tall) {
            int d = under(q);
            return room.width(q) <= wide && room.height(q) <= tall && room.width(d) <= wide && room.height(d) <= tall;
        }

        /** Two polynomials, a lying lower than b, without a common divisor, become a ratio at mark. */
        int pack(int mark, int a, int b) {
            planes.pair(mark, a, b);
            int head = room.head(under(mark));
            if (head != 1) {
                int inv = Numbers.inverse(head);
                planes.scale(mark, inv);
                planes.scale(under(mark), inv);
            }
            return mark;
        }

        /** a by b, b not 0. */
        int reduced(int a, int b) {
            int mark = room.top;
            int g = divisors.gcd(a, b);
            int above = planes.divide(a, g);
            int below = planes.divide(b, g);
            return pack(mark, above, below);
        }

        int times(int q, int r) {
            int mark = room.top;
            int g = divisors.gcd(q, under(r));
            int h = divisors.gcd(r, under(q));
            int above = planes.times(planes.divide(q, g), planes.divide(r, h));
            int below = planes.times(planes.divide(under(q), h), planes.divide(under(r), g));
            return pack(mark, above, below);
        }

        /** 1 by a ratio that is not 0. */
        int inverse(int q) {
            int mark = room.top;
            int above = room.copy(under(q));
            return pack(mark, above, room.copy(q));
        }

        /** A ratio to a power that is not 0; not 0 itself if that is below 0. */
        int power(int q, int e) {
            int mark = room.top;
            int above = side(e > 0 ? q : under(q), Math.abs(e));
            return pack(mark, above, side(e > 0 ? under(q) : q, Math.abs(e)));
        }

        private int side(int p, int e) {
            int mark = room.top;
            int made = room.copy(p);
            for (int i = 1; i < e; i++) {
                made = room.settle(mark, planes.times(made, p));
            }
            return made;
        }
    }

    /**
     * Values: ratios and terms as blocks. X, Y, how many factorials there are, their a, b, c, e
     * (place for those of two terms), then the ratio. A ratio has no factorials, and X and Y are 1.
     */
    static final class Terms {
        private static final int FACTS = 24;
        private static final int HEAD = 3 + FACTS * 4;
        private static final int MOST_POWERS = 12;
        private static final int MOST_C = 50;
        private static final int MOST_AB = 3;
        private final Room room;
        private final Planes planes;
        private final Divisors divisors;
        private final Ratios ratios;
        private final int[] factorials;
        private final int[] lines;
        private int upper;
        private int lower;

        Terms(Room room, Planes planes, Divisors divisors, Ratios ratios) {
            this.room = room;
            this.planes = planes;
            this.divisors = divisors;
            this.ratios = ratios;
            factorials = new int[2 * MOST_AB * VALUES + MOST_C + 1];
            lines = new int[9];
            long product = 1;
            for (int i = 0; i < factorials.length; i++) {
                product = i == 0 ? 1 : product * i % P;
                factorials[i] = (int) product;
            }
        }

        // ---- blocks

        /** A value's head; its ratio is to be put right behind it. */
        int open() {
            int v = room.take(HEAD);
            room.put(v, 1);
            room.put(v + 1, 1);
            return v;
        }

        int ratioOf(int v) {
            return v + HEAD;
        }

        private int size(int v) {
            int q = ratioOf(v);
            return HEAD + room.span(q) + room.span(ratios.under(q));
        }

        int settle(int mark, int v) {
            int size = size(v);
            if (v <= mark) {
                return v;
            }
            room.move(v, mark, size);
            room.release(mark + size);
            return mark;
        }

        int ofNumber(int x) {
            int v = open();
            room.constant(x);
            room.constant(1);
            return v;
        }

        /** a n + b k + c. */
        int line(int a, int b, int c) {
            int v = open();
            planes.linear(a, b, c);
            room.constant(1);
            return v;
        }

        /** A ratio that lies elsewhere, as a value. */
        int wrapped(int q) {
            int v = open();
            room.copy(q);
            room.copy(ratios.under(q));
            return v;
        }

        int load(Slot s) {
            int v = open();
            if (s.kind == TERM) {
                room.put(v, s.x);
                room.put(v + 1, s.y);
                room.put(v + 2, s.factorials);
                for (int i = 0; i < s.factorials * 4 && i < s.facts.length; i++) {
                    room.put(v + 3 + i, s.facts[i]);
                }
            }
            planes.load(s.above);
            planes.load(s.below);
            return v;
        }

        int save(int v, Slot s) {
            s.wipe();
            s.kind = kindOf(v);
            s.x = room.get(v);
            s.y = room.get(v + 1);
            s.factorials = Math.min(room.get(v + 2), s.facts.length / 4);
            for (int i = 0; i < s.factorials * 4 && i < s.facts.length; i++) {
                s.facts[i] = room.get(v + 3 + i);
            }
            planes.save(ratioOf(v), s.above);
            planes.save(ratios.under(ratioOf(v)), s.below);
            return s.kind;
        }

        int kindOf(int v) {
            return room.get(v) == 1 && room.get(v + 1) == 1 && room.get(v + 2) == 0 ? RATIO : TERM;
        }

        boolean isZero(int v) {
            return room.isZero(ratioOf(v));
        }

        /** A factorial of a value counts e times more; they stay in their order. */
        private void addFactorial(int v, int a, int b, int c, int e) {
            int many = room.get(v + 2);
            int rank = rank(a, b, c);
            int i = 0;
            for (; i < many && i < FACTS; i++) {
                int at = v + 3 + i * 4;
                int other = rank(room.get(at), room.get(at + 1), room.get(at + 2));
                if (other == rank && room.get(at + 3) + e == 0) {
                    room.move(at + 4, at, (many - 1 - i) * 4);
                    room.put(v + 2, many - 1);
                    return;
                }
                if (other == rank) {
                    room.put(at + 3, room.get(at + 3) + e);
                    return;
                }
                if (other > rank) {
                    break;
                }
            }
            if (many >= FACTS || e == 0) {
                return;
            }
            for (int l = many * 4 - 1; l >= i * 4; l--) {
                room.put(v + 3 + l + 4, room.get(v + 3 + l));
            }
            int at = v + 3 + i * 4;
            room.put(at, a);
            room.put(at + 1, b);
            room.put(at + 2, c);
            room.put(at + 3, e);
            room.put(v + 2, many + 1);
        }

        private static int rank(int a, int b, int c) {
            return ((a + 8) * 16 + b + 8) * 256 + c + 128;
        }

        private void addFactorials(int v, int w, int sign) {
            for (int i = 0; i < room.get(w + 2) && i < FACTS; i++) {
                int at = w + 3 + i * 4;
                addFactorial(v, room.get(at), room.get(at + 1), room.get(at + 2), sign * room.get(at + 3));
            }
        }

        private int powers(int v) {
            int sum = 0;
            for (int i = 0; i < room.get(v + 2) && i < FACTS; i++) {
                sum += Math.abs(room.get(v + 3 + i * 4 + 3));
            }
            return sum;
        }

        private boolean fits(int v) {
            return ratios.fits(ratioOf(v)) && powers(v) <= MOST_POWERS;
        }

        // ---- what is made of values; -1 where it is too large

        /** v + c w of two ratios. */
        int plus(int v, int w, int c) {
            int mark = room.top;
            int q = ratioOf(v);
            int r = ratioOf(w);
            int left = planes.times(q, ratios.under(r));
            int right = planes.times(r, ratios.under(q));
            int above = planes.plus(left, right, c);
            int below = planes.times(ratios.under(q), ratios.under(r));
            int made = open();
            ratios.reduced(above, below);
            return fits(made) ? settle(mark, made) : -1;
        }

        /** v times w, or v by w (not 0) with sign -1. */
        int times(int v, int w, int sign) {
            if (isZero(v) || isZero(w)) {
                return ofNumber(0);
            }
            int mark = room.top;
            int r = sign > 0 ? ratioOf(w) : ratios.inverse(ratioOf(w));
            int made = open();
            ratios.times(ratioOf(v), r);
            room.put(made, Numbers.times(room.get(v), Numbers.power(room.get(w), sign)));
            room.put(made + 1, Numbers.times(room.get(v + 1), Numbers.power(room.get(w + 1), sign)));
            addFactorials(made, v, 1);
            addFactorials(made, w, sign);
            return fits(made) ? settle(mark, made) : -1;
        }

        /** v to the power e, not below 0 where v is 0. */
        int power(int v, int e) {
            if (e == 0 || isZero(v)) {
                return ofNumber(e == 0 ? 1 : 0);
            }
            int q = ratioOf(v);
            int size = Math.abs(e);
            int wide = Math.max(room.width(q), room.width(ratios.under(q)));
            int tall = Math.max(room.height(q), room.height(ratios.under(q)));
            if (wide * size > MOST_N || tall * size > MOST_K || powers(v) * size > MOST_POWERS) {
                return -1;
            }
            int made = open();
            ratios.power(q, e);
            room.put(made, Numbers.power(room.get(v), e));
            room.put(made + 1, Numbers.power(room.get(v + 1), e));
            addFactorials(made, v, e);
            return made;
        }

        /** A value to the power of line 0; where that has n or k, the value is a number that is not 0. */
        int powerOfLine(int v) {
            if (isNumberLine(0)) {
                return power(v, lines[2]);
            }
            int x = room.get(ratioOf(v) + 2);
            int made = ofNumber(Numbers.power(x, lines[2]));
            room.put(made, Numbers.power(x, lines[0]));
            room.put(made + 1, Numbers.power(x, lines[1]));
            return made;
        }

        /** -1 times a value, in place. */
        int negative(int v) {
            planes.scale(ratioOf(v), P - 1);
            return v;
        }

        /** Whether a value is a line; if so it is line i (0 or 1) then. */
        boolean isLine(int v, int i) {
            int p = ratioOf(v);
            int d = ratios.under(p);
            if (kindOf(v) != RATIO || !room.isNumber(d) || room.width(p) > 1 || room.height(p) > 1
                    || planes.cell(p, 1, 1) != 0) {
                return false;
            }
            return keepLine(i, Numbers.small(planes.cell(p, 1, 0)), Numbers.small(planes.cell(p, 0, 1)),
                    Numbers.small(planes.cell(p, 0, 0)));
        }

        private boolean keepLine(int i, int a, int b, int c) {
            if (Math.abs(a) > MOST_AB || Math.abs(b) > MOST_AB || Math.abs(c) > MOST_C || i < 0 || i > 2) {
                return false;
            }
            lines[i * 3] = a;
            lines[i * 3 + 1] = b;
            lines[i * 3 + 2] = c;
            return true;
        }

        /** Whether line 0 less line 1 is a line; it is line 2 then. */
        boolean isLineBetween() {
            return keepLine(2, lines[0] - lines[3], lines[1] - lines[4], lines[2] - lines[5]);
        }

        /** Whether the ratio of a value is a number. */
        boolean hasNumber(int v) {
            return room.isNumber(ratioOf(v)) && room.isNumber(ratios.under(ratioOf(v)));
        }

        boolean isNumberLine(int i) {
            return i >= 0 && i < 3 && lines[i * 3] == 0 && lines[i * 3 + 1] == 0;
        }

        boolean isBelowZero(int i) {
            return isNumberLine(i) && lines[i * 3 + 2] < 0;
        }

        /** The factorial of line 0, by those of the lines behind it. */
        int factorialsOfLines(int many) {
            int v = ofNumber(1);
            for (int i = 0; i < many && i < 3; i++) {
                int sign = i == 0 ? 1 : -1;
                int c = lines[i * 3 + 2];
                if (!isNumberLine(i)) {
                    addFactorial(v, lines[i * 3], lines[i * 3 + 1], c, sign);
                } else if (c >= 0 && c < factorials.length) {
                    planes.scale(ratioOf(v), Numbers.power(factorials[c], sign));
                }
            }
            return v;
        }

        /** n + x for n, or k + x for k, of a ratio, in place. */
        int slidRatio(int v, int way, int x) {
            int q = ratioOf(v);
            planes.slide(q, way, x);
            planes.slide(ratios.under(q), way, x);
            return v;
        }

        /** The same of a term, x being told as a number. */
        int slid(int v, int way, int x) {
            long by = Numbers.small(Numbers.rest(x));
            for (int i = 0; i < room.get(v + 2) && i < FACTS; i++) {
                int at = v + 3 + i * 4;
                long c = room.get(at + 2) + by * room.get(at + (way == 0 ? 0 : 1));
                if (c < -MOST_C || c > MOST_C) {
                    return -1;
                }
                room.put(at + 2, (int) c);
            }
            slidRatio(v, way, Numbers.rest(x));
            planes.scale(ratioOf(v), Numbers.power(room.get(way == 0 ? v : v + 1), (int) by));
            return v;
        }

        // ---- quotients

        /** A value with n + j for n (way 0), or k + j for k (1), by it: a ratio, however large. */
        int step(int v, int way, int j) {
            int mark = room.top;
            int num = ratioOf(v);
            int den = ratios.under(num);
            if (j == 0) {
                room.constant(1);
                room.constant(1);
                return mark;
            }
            int numLater = room.copy(num);
            int denLater = room.copy(den);
            planes.slide(numLater, way, j);
            planes.slide(denLater, way, j);
            int g = divisors.gcd(num, numLater);
            int h = divisors.gcd(den, denLater);
            upper = planes.times(planes.divide(numLater, g), planes.divide(den, h));
            lower = planes.times(planes.divide(num, g), planes.divide(denLater, h));
            planes.scale(upper, Numbers.power(room.get(way == 0 ? v : v + 1), j));
            upper = ratios.pack(mark, upper, lower);
            lower = ratios.under(upper);
            for (int i = 0; i < room.get(v + 2) && i < FACTS; i++) {
                stepFactorial(v + 3 + i * 4, way, j);
            }
            return ratios.pack(mark, upper, lower);
        }

        /** The factors that a factorial brings into such a quotient. */
        private void stepFactorial(int at, int way, int j) {
            int a = room.get(at);
            int b = room.get(at + 1);
            int c = room.get(at + 2);
            int e = room.get(at + 3);
            int by = (way == 0 ? a : b) * j;
            for (int s = 0; s < Math.abs(by); s++) {
                for (int i = 0; i < Math.abs(e); i++) {
                    stepLine(a, b, by > 0 ? c + s + 1 : c - s, by > 0 == e > 0);
                }
            }
        }

        /** One factor more above or below; it is irreducible, so it goes with one like it or stays. */
        private void stepLine(int a, int b, int c, boolean above) {
            int line = planes.linear(a, b, c);
            int shorter = planes.divide(above ? lower : upper, line);
            int made = shorter >= 0 ? shorter : planes.times(above ? upper : lower, line);
            if (above == shorter >= 0) {
                lower = room.settle(lower, made);
            } else {
                int under = room.copy(lower);
                upper = planes.pair(upper, made, under);
                lower = ratios.under(upper);
            }
        }

        // ---- values at numbers

        int valueOf(Slot s, int n, int k) {
            if (s.kind == TERM && (n < 0 || n > VALUES || k < 0 || k > VALUES)) {
                return NONE;
            }
            long above = s.sideAt(0, Numbers.rest(n), Numbers.rest(k));
            long below = s.sideAt(1, Numbers.rest(n), Numbers.rest(k));
            boolean zero = false;
            for (int i = 0; i < s.factorials; i++) {
                int x = s.fact(i, 0) * n + s.fact(i, 1) * k + s.fact(i, 2);
                int e = s.fact(i, 3);
                if (x < 0 && e > 0) {
                    return NONE;
                }
                zero = zero || x < 0;
                int f = x >= 0 && x < factorials.length ? factorials[x] : 1;
                for (int l = 0; l < Math.abs(e); l++) {
                    above = e > 0 ? above * f % P : above;
                    below = e > 0 ? below : below * f % P;
                }
            }
            if (below == 0) {
                return NONE;
            }
            if (zero) {
                return 0;
            }
            if (s.kind == TERM) {
                above = above * Numbers.power(s.x, n) % P * Numbers.power(s.y, k) % P;
            }
            return (int) (above * Numbers.inverse((int) below) % P);
        }

        int sumOf(Slot s, int n, int low, int high) {
            if (n < 0 || n > VALUES || low < 0 || low > VALUES || high < 0 || high > VALUES) {
                return NONE;
            }
            int sum = 0;
            for (int k = low; k <= high; k++) {
                int value = valueOf(s, n, k);
                if (value < 0) {
                    return NONE;
                }
                sum = Numbers.plus(sum, value);
            }
            return sum;
        }

        // ---- closed rows

        /** The value whose quotient along n is - a by b; -1 if there is none. Both are spent. */
        int closed(int a, int b) {
            if (room.isZero(a) || room.isZero(b)) {
                return -1;
            }
            int x = Numbers.times(Numbers.minus(0, room.head(a)), Numbers.inverse(room.head(b)));
            int leftA = room.width(a);
            int leftB = room.width(b);
            int v = ofNumber(1);
            room.put(v, x);
            for (int c = 1 - MOST_C; c <= 1 + MOST_C; c++) {
                int timesA = timesRoot(a, leftA, Numbers.rest(-c));
                int timesB = timesRoot(b, leftB, Numbers.rest(-c));
                leftA -= timesA;
                leftB -= timesB;
                if (room.get(v + 2) >= FACTS) {
                    return -1;
                }
                if (timesA != timesB) {
                    addFactorial(v, 1, 0, c - 1, timesA - timesB);
                }
            }
            return leftA == 0 && leftB == 0 && fits(v) ? v : -1;
        }

        private int timesRoot(int p, int degree, int x) {
            int many = 0;
            for (int turn = 0; turn <= MOST_N && divisors.isRoot(p + 2, degree - many, x); turn++) {
                many++;
            }
            return many;
        }
    }

    /**
     * The tape and the written text. A text is first looked at by its signs alone and put into the
     * order in which it is worked out (operands before their sign); then it is worked out.
     */
    static final class Texts {
        private static final int TAPE = 400;
        private static final int WRITTEN = 4000;
        private static final int OPEN = 20;
        private static final int DIGITS = 10;
        // signs, the first ones in the order of how strongly they bind
        private static final int PLAIN = 0;
        static final int CHOICE = 1;
        private static final int CHOICE_LAST = 2;
        static final int PLUS = 3;
        static final int MINUS = 4;
        static final int NEGATE = 5;
        static final int TIMES = 6;
        static final int BY = 7;
        static final int POWER = 8;
        static final int FACTORIAL = 9;
        static final int NUMBER = 10;
        static final int IN_N = 11;
        static final int IN_K = 12;
        // what may come next
        private static final int BEGIN = 0;
        private static final int OPERAND = 1;
        private static final int AFTER = 2;
        private static final int AFTER_FACTORIAL = 3;
        private static final int AFTER_POWER = 4;
        private static final int CHOICE_OPEN = 5;
        private static final int WRONG = 6;

        private final Terms terms;
        private final int[] tape;
        int tapeCount;
        private final int[] written;
        int writtenCount;
        private final int[] ink;
        private int inkCount;
        private final int[] codes;
        int codeCount;
        private final int[] signs;
        private int signCount;
        private int openCount;
        private int state;
        private final int[] values;
        private int valueCount;
        int code;
        int left;
        int right;
        int faultPlace;

        Texts(Terms terms) {
            this.terms = terms;
            tape = new int[TAPE];
            written = new int[WRITTEN];
            ink = new int[WRITTEN];
            codes = new int[3 * (TAPE + 1)];
            signs = new int[2 * (TAPE + 1)];
            values = new int[TAPE + 1];
            faultPlace = NONE;
        }

        int append(long bytes, int n) {
            if (n < 1 || n > 8 || n > TAPE - tapeCount) {
                return NONE;
            }
            for (int i = n - 1; i >= 0; i--) {
                if (tapeCount >= 0 && tapeCount < TAPE) {
                    tape[tapeCount] = (int) (bytes >> 8 * i & 255);
                    tapeCount++;
                }
            }
            return tapeCount;
        }

        void emptyTape() {
            tapeCount = 0;
        }

        int retype() {
            if (writtenCount > TAPE) {
                return LARGE;
            }
            for (int i = 0; i < writtenCount && i < TAPE; i++) {
                tape[i] = written[i];
            }
            tapeCount = writtenCount;
            return tapeCount;
        }

        int inscribed(int i) {
            return i >= 0 && i < writtenCount && i < WRITTEN ? written[i] : NONE;
        }

        // ---- the signs

        /** Looks at the tape: 0, or 1 with the place of the fault. */
        int compile() {
            codeCount = 0;
            signCount = 0;
            openCount = 0;
            valueCount = 0;
            state = BEGIN;
            int i = 0;
            for (int turn = 0; turn <= TAPE && i < tapeCount && i < TAPE && state != WRONG; turn++) {
                int sign = tape[i];
                if (state == BEGIN || state == OPERAND) {
                    if (sign >= '0' && sign <= '9') {
                        i = takeNumber(i) - 1;
                    } else if (sign != ' ') {
                        takeOperand(sign, i);
                    }
                } else if (sign != ' ') {
                    takeSign(sign, i);
                }
                if (state != WRONG) {
                    i++;
                }
            }
            if (state == WRONG || openCount > 0 || state < AFTER || state > AFTER_POWER) {
                faultPlace = i;
                return 1;
            }
            unload(PLUS);
            return 0;
        }

        /** A number, and the place behind it; the place of an eleventh digit where there is one. */
        private int takeNumber(int from) {
            long number = 0;
            int i = from;
            while (i < tapeCount && i < TAPE && i < from + DIGITS && tape[i] >= '0' && tape[i] <= '9') {
                number = number * 10 + tape[i] - '0';
                i++;
            }
            emit(NUMBER, from, Numbers.rest(number));
            afterOperand();
            if (i < tapeCount && i < TAPE && tape[i] >= '0' && tape[i] <= '9') {
                state = WRONG;
                return i + 1;
            }
            return i;
        }

        private void takeOperand(int sign, int place) {
            if (sign == 'n' || sign == 'k') {
                emit(sign == 'n' ? IN_N : IN_K, place, 0);
                afterOperand();
            } else if (sign == '(') {
                open(PLAIN, place);
            } else if (sign == 'C') {
                push(CHOICE, place);
                state = CHOICE_OPEN;
            } else if (sign == '-' && state == BEGIN) {
                push(NEGATE, place);
                state = OPERAND;
            } else {
                state = WRONG;
            }
        }

        private void takeSign(int sign, int place) {
            if (state == CHOICE_OPEN) {
                if (sign == '(') {
                    open(CHOICE, place);
                } else {
                    state = WRONG;
                }
            } else if (sign == '+' || sign == '-') {
                unload(PLUS);
                push(sign == '+' ? PLUS : MINUS, place);
                state = OPERAND;
            } else if (sign == '*' || sign == '/') {
                unload(TIMES);
                push(sign == '*' ? TIMES : BY, place);
                state = OPERAND;
            } else if (sign == '!' && state == AFTER) {
                emit(FACTORIAL, place, 0);
                state = AFTER_FACTORIAL;
            } else if (sign == '^' && state != AFTER_POWER) {
                push(POWER, place);
                state = OPERAND;
            } else if (sign == ',' || sign == ')') {
                takeEnd(sign);
            } else {
                state = WRONG;
            }
        }

        /** A comma or a closing bracket. */
        private void takeEnd(int sign) {
            unload(PLUS);
            int kind = signCount > 0 ? signOf(signCount - 1) : NUMBER;
            if (sign == ',' && kind == CHOICE) {
                signs[(signCount - 1) * 2] = CHOICE_LAST;
                state = BEGIN;
            } else if (sign == ')' && (kind == PLAIN || kind == CHOICE_LAST)) {
                signCount--;
                openCount--;
                if (kind == CHOICE_LAST) {
                    emit(CHOICE, signs[signCount * 2 + 1], 0);
                }
                afterOperand();
            } else {
                state = WRONG;
            }
        }

        /** A bracket, that of a choice too, whose C stands on the signs already. */
        private void open(int kind, int place) {
            if (openCount >= OPEN) {
                state = WRONG;
                return;
            }
            openCount++;
            if (kind == PLAIN) {
                push(PLAIN, place);
            }
            state = BEGIN;
        }

        /** An operand is whole: behind a ^ it is the exponent. */
        private void afterOperand() {
            state = signCount > 0 && signOf(signCount - 1) == POWER ? AFTER_POWER : AFTER;
        }

        private int signOf(int i) {
            return i >= 0 && i * 2 < signs.length ? signs[i * 2] : NUMBER;
        }

        private void push(int sign, int place) {
            if (signCount >= 0 && signCount * 2 + 1 < signs.length) {
                signs[signCount * 2] = sign;
                signs[signCount * 2 + 1] = place;
                signCount++;
            }
        }

        /** The signs that bind as strongly as this one, or more so, are worked out now. */
        private void unload(int least) {
            for (int turn = 0; turn <= TAPE && signCount > 0 && signOf(signCount - 1) >= least; turn++) {
                signCount--;
                emit(signs[signCount * 2], signs[signCount * 2 + 1], 0);
            }
        }

        private void emit(int sign, int place, int number) {
            if (codeCount >= 0 && codeCount * 3 + 2 < codes.length) {
                codes[codeCount * 3] = sign;
                codes[codeCount * 3 + 1] = place;
                codes[codeCount * 3 + 2] = number;
                codeCount++;
            }
        }

        // ---- what is worked out

        int result() {
            return valueCount > 0 ? values[0] : 0;
        }

        /** Looks at code i: 0 with its operands in left and right, or its fault 2 or 3; its place is kept. */
        int ready(int i) {
            if (i < 0 || i >= codeCount || i * 3 + 2 >= codes.length) {
                return 4;
            }
            code = codes[i * 3];
            faultPlace = codes[i * 3 + 1];
            int operands = code >= NUMBER ? 0 : code == NEGATE || code == FACTORIAL ? 1 : 2;
            if (valueCount < operands || valueCount > values.length) {
                return 4;
            }
            right = operands > 0 ? values[valueCount - 1] : codes[i * 3 + 2];
            left = operands > 1 ? values[valueCount - 2] : right;
            valueCount -= operands;
            return operands == 0 ? 0 : faultOf(left, right);
        }

        /** What came of the code is the newest operand: 0, or fault 4 where nothing came. */
        int finish(int made) {
            if (made < 0 || valueCount < 0 || valueCount >= values.length) {
                return 4;
            }
            values[valueCount] = code >= NUMBER ? made : terms.settle(left, made);
            valueCount++;
            return 0;
        }

        /** Fault 2 or 3 of a sign, or 0. */
        private int faultOf(int v, int w) {
            boolean term = terms.kindOf(v) == TERM;
            if (code == PLUS || code == MINUS) {
                return term || terms.kindOf(w) == TERM ? 2 : 0;
            }
            if (code == BY) {
                return terms.isZero(w) ? 3 : 0;
            }
            if (code == FACTORIAL) {
                return !terms.isLine(v, 0) ? 2 : terms.isBelowZero(0) ? 3 : 0;
            }
            if (code == CHOICE) {
                if (!terms.isLine(v, 0) || !terms.isLine(w, 1) || !terms.isLineBetween()) {
                    return 2;
                }
                return terms.isBelowZero(0) || terms.isBelowZero(1) || terms.isBelowZero(2) ? 3 : 0;
            }
            if (code != POWER) {
                return 0;
            }
            if (!terms.isLine(w, 0) || !terms.isNumberLine(0) && (term || !terms.hasNumber(v))) {
                return 2;
            }
            return terms.isZero(v) && (!terms.isNumberLine(0) || terms.isBelowZero(0)) ? 3 : 0;
        }

        // ---- writing

        /** Writes what a slot has: how many bytes. */
        int inscribe(Slot s) {
            inkCount = 0;
            if (s.kind == TERM) {
                draw('(');
                drawRatio(s);
                draw(')');
                drawBase(s.x, 'n');
                drawBase(s.y, 'k');
                for (int i = 0; i < s.factorials; i++) {
                    drawFactorial(s, i);
                }
            } else {
                drawRatio(s);
            }
            if (inkCount > WRITTEN) {
                return LARGE;
            }
            writtenCount = inkCount;
            for (int i = 0; i < writtenCount && i < WRITTEN; i++) {
                written[i] = ink[i];
            }
            return writtenCount;
        }

        private void draw(int sign) {
            if (inkCount >= 0 && inkCount < WRITTEN) {
                ink[inkCount] = sign;
            }
            inkCount++;
        }

        private void drawRatio(Slot s) {
            boolean whole = s.isWhole();
            if (!whole) {
                draw('(');
            }
            drawPolynomial(s, 0);
            if (!whole) {
                draw(')');
                draw('/');
                draw('(');
                drawPolynomial(s, 1);
                draw(')');
            }
        }

        private void drawPolynomial(Slot s, int which) {
            int parts = 0;
            for (int j = s.tall(which); j >= 0; j--) {
                for (int i = s.wide(which); i >= 0; i--) {
                    int v = Numbers.small(s.ratioNumber(which, i, j));
                    if (v != 0) {
                        drawPart(v, i, j, parts == 0);
                        parts++;
                    }
                }
            }
            if (parts == 0) {
                draw('0');
            }
        }

        private void drawPart(int v, int i, int j, boolean isFirst) {
            if (v < 0) {
                draw('-');
            } else if (!isFirst) {
                draw('+');
            }
            int size = Math.abs(v);
            boolean some = size != 1 || i == 0 && j == 0;
            if (some) {
                drawNumber(size);
            }
            drawLetter('n', i, some);
            drawLetter('k', j, some || i > 0);
        }

        private void drawLetter(int letter, int e, boolean behind) {
            if (e == 0) {
                return;
            }
            if (behind) {
                draw('*');
            }
            draw(letter);
            if (e > 1) {
                draw('^');
                drawNumber(e);
            }
        }

        private void drawNumber(int v) {
            boolean begun = false;
            for (int unit = 1000000000; unit > 0; unit /= 10) {
                int digit = v / unit % 10;
                begun = begun || digit != 0 || unit == 1;
                if (begun) {
                    draw('0' + digit);
                }
            }
        }

        private void drawBase(int x, int letter) {
            if (x != 1) {
                draw('*');
                drawNumber(x);
                draw('^');
                draw(letter);
            }
        }

        private void drawFactorial(Slot s, int i) {
            draw(s.fact(i, 3) > 0 ? '*' : '/');
            draw('(');
            boolean isFirst = true;
            for (int part = 0; part < 3; part++) {
                int v = part == 0 ? s.fact(i, 1) : part == 1 ? s.fact(i, 0) : s.fact(i, 2);
                if (v != 0) {
                    drawPart(v, part == 1 ? 1 : 0, part == 0 ? 1 : 0, isFirst);
                    isFirst = false;
                }
            }
            draw(')');
            draw('!');
            if (Math.abs(s.fact(i, 3)) > 1) {
                draw('^');
                drawNumber(Math.abs(s.fact(i, 3)));
            }
        }
    }

    /**
     * Linear dependence of columns of polynomials in n. The caller puts the matrix at one number n
     * after the other; the first column (from a given one on) that depends on those before it, and the
     * polynomials that show it, are woven from that. A point at which columns are less dependent than
     * at all points before is the better one, and all begins again with it.
     */
    static final class Solver {
        private static final int ROWS = 60;
        private static final int COLS = 46;
        private final Room room;
        private final int[] matrix;
        private final int[] order;
        private final int[] pivots;
        private int rows;
        private int cols;
        private int from;
        private int need;
        private int points;
        private int rank;
        private int woven;
        private int values;
        boolean done;
        int target;

        Solver(Room room) {
            this.room = room;
            matrix = new int[ROWS * COLS];
            order = new int[ROWS];
            pivots = new int[COLS];
        }

        /** The degrees of the columns are `bound` in sum at most, so bound + 1 points are enough. */
        void begin(int rowCount, int colCount, int firstTarget, int bound) {
            rows = Math.max(0, Math.min(rowCount, ROWS));
            cols = Math.max(0, Math.min(colCount, COLS));
            from = firstTarget;
            need = bound + 1;
            points = 0;
            rank = 0;
            done = false;
            target = -1;
            int most = Math.min(rows, cols) + 1;
            woven = room.weaveStart(most, need);
            values = room.take(most);
            for (int i = 0; i < ROWS; i++) {
                order[i] = i;
            }
        }

        void put(int row, int col, int v) {
            if (row >= 0 && row < rows && col >= 0 && col < cols) {
                matrix[row * cols + col] = v;
            }
        }

        private int entry(int row, int col) {
            return row >= 0 && row < rows && col >= 0 && col < cols ? matrix[order[row] * cols + col] : 0;
        }

        /** The matrix that was put is that at n = x. */
        void point(int x) {
            boolean fresh = points == 0;
            int r = 0;
            int hit = -1;
            for (int c = 0; c < cols && hit < 0; c++) {
                boolean known = !fresh && r < rank && pivots[r] == c;
                int row = known ? r : search(r, c);
                if (known && entry(r, c) == 0) {
                    return;
                }
                if (row < 0) {
                    hit = c >= from ? c : -1;
                    continue;
                }
                fresh = fresh || !known;
                int other = order[row];
                order[row] = order[r];
                order[r] = other;
                pivots[r] = c;
                eliminate(r, c);
                r++;
            }
            if (fresh) {
                points = 0;
                rank = r;
                target = hit;
                room.weaveAgain(woven);
            }
            if (hit >= 0) {
                solveAt(hit);
                room.weave(woven, x, values, rank + 1);
            }
            points++;
            done = points >= need || hit < 0 && rank == cols;
        }

        /** The first row from r on with something in a column; -1 if there is none. */
        private int search(int r, int c) {
            for (int row = r; row < rows; row++) {
                if (entry(row, c) != 0) {
                    return row;
                }
            }
            return -1;
        }

        private void eliminate(int r, int c) {
            int inv = Numbers.inverse(entry(r, c));
            for (int row = r + 1; row < rows; row++) {
                long factor = P - Numbers.times(entry(row, c), inv);
                for (int l = c; l < cols && factor != P; l++) {
                    matrix[order[row] * cols + l] = (int) ((entry(row, l) + factor * entry(r, l)) % P);
                }
            }
        }

        /** The values at this point: of the column found, then of the pivots' ones; none is divided. */
        private void solveAt(int hit) {
            int product = 1;
            for (int i = rank - 1; i >= 0; i--) {
                int sum = entry(i, hit);
                for (int l = i + 1; l < rank; l++) {
                    sum = Numbers.minus(sum, Numbers.times(entry(i, pivots[l]), room.get(values + 1 + l)));
                }
                room.put(values + 1 + i, Numbers.times(sum, Numbers.inverse(entry(i, pivots[i]))));
                product = Numbers.times(product, entry(i, pivots[i]));
            }
            room.put(values, product);
            room.scale(values + 1, rank, Numbers.minus(0, product));
        }

        /** The polynomial by which a column is to be taken. */
        int factorOf(int col) {
            int row = col == target ? 0 : -1;
            for (int i = 0; i < rank && i < COLS; i++) {
                row = pivots[i] == col && target >= 0 ? i + 1 : row;
            }
            if (row < 0) {
                return room.constant(0);
            }
            int made = room.block(Math.max(points - 1, 0), 0);
            room.move(room.wovenRow(woven, row), made + 2, points);
            room.trim(made);
            return made;
        }

        /** The polynomials of columns 0 .. many - 1, as the numbers at k^0 .. of one. */
        int factorsBelow(int many) {
            int made = room.block(Math.max(points - 1, 0), Math.max(many - 1, 0));
            for (int i = 0; i < rank && i < COLS; i++) {
                if (pivots[i] < many) {
                    room.move(room.wovenRow(woven, i + 1), room.rowOf(made, pivots[i]), points);
                }
            }
            room.trim(made);
            return made;
        }
    }

    /** Sums in closed form, recurrences for sums, and their records. */
    static final class Sums {
        private static final int SHIFTS = 40;
        private static final int MODEST_N = 12;
        private static final int MODEST_K = 8;
        private static final int DEPTH = 8;
        /** The greatest degree at which a solution for Z = 0 is looked for. */
        private static final int FREE = 12;
        private static final int START = 7654321;
        private static final int POINTS = 100000;
        private final Room room;
        private final Planes planes;
        private final Divisors divisors;
        private final Ratios ratios;
        private final Terms terms;
        private final Solver solver;
        int formA;
        int formB;
        int formC;
        private int quotient;
        private int whole;
        private int scaleAB;
        private int depth;
        private final int[] steps;
        private final int[] pieces;
        private final int[] family;
        private final int[] columns;
        int made;

        Sums(Room room, Planes planes, Divisors divisors, Ratios ratios, Terms terms, Solver solver) {
            this.room = room;
            this.planes = planes;
            this.divisors = divisors;
            this.ratios = ratios;
            this.terms = terms;
            this.solver = solver;
            steps = new int[4];
            pieces = new int[4];
            family = new int[4];
            columns = new int[4];
        }

        // ---- the form

        /** The form of a ratio that is not 0: whether it is modest. */
        boolean makeForm(int q) {
            int den = ratios.under(q);
            int a = divisors.primitive(q);
            int b = divisors.primitive(den);
            int c = room.constant(1);
            int slid = 0;
            for (int i = 0; i <= SHIFTS && room.height(a) > 0 && room.height(b) > 0; i++) {
                if (i > 0) {
                    planes.slideK(b, 1);
                    slid = i;
                }
                int d = divisors.lift(a, b);
                if (room.height(d) > 0) {
                    a = planes.divide(a, d);
                    b = planes.divide(b, d);
                    c = grown(c, d, i);
                    if (c < 0) {
                        return false;
                    }
                }
            }
            planes.slideK(b, Numbers.minus(0, slid));
            // B and C are monic, so that the numbers at A's and r's greatest powers of k are the same
            int above = planes.slice(q, room.height(q));
            int below = planes.times(planes.slice(den, room.height(den)), planes.slice(a, room.height(a)));
            int g = divisors.single(above, below);
            above = planes.divide(above, g);
            below = planes.divide(below, g);
            int inv = Numbers.inverse(room.head(below));
            planes.scale(above, inv);
            planes.scale(below, inv);
            formA = planes.times(above, a);
            room.copy(below);
            formB = planes.monic(b);
            formC = planes.monic(c);
            return isModest(formA) && isModest(formB) && isModest(formC);
        }

        /** c times d shifted by -1 .. -i; -1 when that is too large for a modest form already. */
        private int grown(int c, int d, int i) {
            if (room.height(c) + i * room.height(d) > MODEST_K || room.width(c) + i * room.width(d) > MODEST_N) {
                return -1;
            }
            int made = c;
            for (int m = 1; m <= i; m++) {
                int shifted = room.copy(d);
                planes.slideK(shifted, Numbers.minus(0, m));
                made = planes.times(made, shifted);
            }
            return made;
        }

        private boolean isModest(int q) {
            return ratios.isWithin(q, MODEST_N, MODEST_K);
        }

        // ---- the equation

        /** The depth of the equation of the form, z being the degree of its right side. */
        private int depthFor(int z) {
            int d = Math.max(room.height(formA), room.height(formB));
            int lead = planes.slice(formA, d);
            int denA = ratios.under(formA);
            if (room.height(formA) != room.height(formB) || !room.isZero(planes.plus(lead, denA, P - 1))) {
                return z - d;
            }
            int h = 0;
            if (d > 0) {
                int denB = ratios.under(formB);
                int before = room.copy(formB);
                planes.slideK(before, P - 1);
                int g = planes.times(planes.slice(before, d - 1), denA);
                int f = planes.times(planes.slice(formA, d - 1), denB);
                h = numberOf(planes.plus(g, f, P - 1), planes.times(denA, denB));
            }
            return h >= 0 && h <= FREE ? Math.max(z - d + 1, h) : z - d + 1;
        }

        /** a by b, if that is a number; -1 otherwise. */
        private int numberOf(int a, int b) {
            if (room.isZero(a)) {
                return 0;
            }
            int x = Numbers.times(room.head(a), Numbers.inverse(room.head(b)));
            return room.isZero(planes.plus(a, b, Numbers.minus(0, x))) ? x : -1;
        }

        /** Looks for x (and a_i) in the equation with the form and the pieces: whether there are such. */
        private boolean equation(int count, int z) {
            int before = room.copy(formB);
            planes.slideK(before, P - 1);
            int g = divisors.single(ratios.under(formA), ratios.under(formB));
            int byA = planes.divide(ratios.under(formB), g);
            int byB = planes.divide(ratios.under(formA), g);
            scaleAB = planes.times(byA, ratios.under(formA));
            int a = planes.times(formA, byA);
            int b = planes.times(before, byB);
            int unknowns = Math.max(depth + 1, 0);
            int bound = unknowns * Math.max(room.width(a), room.width(b));
            for (int i = 0; i < count && i < columns.length; i++) {
                columns[i] = planes.times(formC, pieces[i]);
                bound += room.width(columns[i]);
            }
            int top = Math.max(room.height(a), room.height(b)) + Math.max(depth, 0);
            int rows = Math.max(z, top) + 1;
            solver.begin(rows, unknowns + count, unknowns, bound);
            int line = room.take(3 * rows);
            for (int x = START; x < START + POINTS && !solver.done && !room.full; x++) {
                putUnknowns(a, b, x, unknowns, rows, line);
                putPieces(count, unknowns, x, rows, line);
                solver.point(x);
            }
            return solver.done && solver.target >= 0;
        }

        /** The columns of x: A(k) (k + 1)^i - B(k - 1) k^i. */
        private void putUnknowns(int a, int b, int x, int unknowns, int rows, int line) {
            int other = line + rows;
            for (int r = 0; r < 2 * rows; r++) {
                room.put(line + r, 0);
            }
            planes.atN(a, x, line);
            planes.atN(b, x, other);
            for (int i = 0; i < unknowns; i++) {
                for (int r = 0; r < rows; r++) {
                    int minus = r >= i ? room.get(other + r - i) : 0;
                    solver.put(r, i, Numbers.minus(room.get(line + r), minus));
                }
                for (int r = rows - 1; r > 0; r--) {
                    room.put(line + r, Numbers.plus(room.get(line + r), room.get(line + r - 1)));
                }
            }
        }

        private void putPieces(int count, int unknowns, int x, int rows, int line) {
            int piece = line + 2 * rows;
            for (int i = 0; i < count && i < columns.length; i++) {
                planes.atN(columns[i], x, piece);
                for (int r = 0; r < rows; r++) {
                    int v = r <= room.height(columns[i]) ? room.get(piece + r) : 0;
                    solver.put(r, unknowns + i, Numbers.minus(0, v));
                }
            }
        }

        /** The form of r and the equation with so many pieces: 0 if it is solved, NONE, or LARGE. */
        private int solved(int r, int count) {
            if (!makeForm(r)) {
                return LARGE;
            }
            int z = 0;
            for (int i = 0; i < count && i < pieces.length; i++) {
                z = Math.max(z, room.height(formC) + room.height(pieces[i]));
            }
            depth = depthFor(z);
            if (depth > DEPTH) {
                return LARGE;
            }
            return equation(count, z) ? 0 : NONE;
        }

        /** What the solved equation tells: a_i (in the family) and R (made): the order, or LARGE. */
        int answer() {
            int unknowns = Math.max(depth + 1, 0);
            int last = solver.target - unknowns;
            if (last < 0 || last >= family.length) {
                return NONE;
            }
            for (int i = 0; i <= last; i++) {
                family[i] = planes.times(solver.factorOf(unknowns + i), ratios.under(pieces[i]));
            }
            int by = divisors.cleaned(family, last + 1);
            int before = room.copy(formB);
            planes.slideK(before, P - 1);
            int x = planes.times(before, solver.factorsBelow(unknowns));
            int above = planes.times(x, planes.times(scaleAB, planes.slice(whole, room.height(whole))));
            int below = planes.times(planes.times(ratios.under(formB), by), planes.times(formC, whole));
            made = ratios.reduced(above, below);
            boolean fit = ratios.fits(made);
            for (int i = 0; i <= last; i++) {
                fit = fit && room.width(family[i]) <= MOST_N;
            }
            return fit ? last : LARGE;
        }

        // ---- closed forms and recurrences

        /** The equation for the sum of a value itself: 0 if it is solved, NONE, or LARGE. */
        int alone(int v) {
            quotient = terms.step(v, 1, 1);
            if (!ratios.fits(quotient)) {
                return LARGE;
            }
            whole = room.constant(1);
            pieces[0] = room.constant(1);
            room.constant(1);
            return solved(quotient, 1);
        }

        /** Works out s_0 .. s_most and the quotient along k of a value: whether they all fit. */
        boolean collect(int v, int most) {
            boolean fit = true;
            for (int j = 0; j <= most && j < steps.length && fit; j++) {
                steps[j] = terms.step(v, 0, j);
                fit = ratios.fits(steps[j]);
            }
            if (fit) {
                quotient = terms.step(v, 1, 1);
                fit = ratios.fits(quotient);
            }
            whole = room.constant(1);
            return fit;
        }

        /** The equation of order j, those below having been tried: 0 if it is solved, NONE, or LARGE. */
        int attempt(int j) {
            if (j < 0 || j >= steps.length) {
                return NONE;
            }
            int base = whole;
            int den = divisors.primitive(ratios.under(steps[j]));
            int rest = planes.divide(den, divisors.gcd(den, whole));
            whole = room.settle(base, planes.times(whole, rest));
            int all = planes.monic(whole);
            boolean modest = isModest(all);
            for (int i = 0; i <= j && modest; i++) {
                pieces[i] = ratios.times(steps[i], all);
                modest = isModest(pieces[i]);
            }
            if (!modest) {
                return LARGE;
            }
            int later = room.copy(whole);
            planes.slideK(later, 1);
            return solved(ratios.times(quotient, ratios.reduced(whole, later)), j + 1);
        }

        void save(Slot s, int order) {
            s.wipe();
            s.kind = RECORD;
            s.order = order;
            for (int i = 0; i <= order && i < family.length; i++) {
                planes.saveStep(family[i], s, i);
            }
            planes.save(made, s.above);
            planes.save(ratios.under(made), s.below);
        }

        // ---- records looked at again

        /** Whether a record is right for the value whose s_j have been collected. */
        boolean isRight(Slot record) {
            int above = planes.loadStep(record, 0);
            int below = room.constant(1);
            int mark = above;
            for (int j = 1; j <= record.order && j < steps.length; j++) {
                int den = ratios.under(steps[j]);
                int more = planes.times(planes.times(planes.loadStep(record, j), steps[j]), below);
                int sum = planes.plus(planes.times(above, den), more, 1);
                above = planes.pair(mark, sum, planes.times(below, den));
                below = ratios.under(above);
            }
            int num = planes.load(record.above);
            int den = planes.load(record.below);
            int numLater = room.copy(num);
            int denLater = room.copy(den);
            planes.slideK(numLater, 1);
            planes.slideK(denLater, 1);
            denLater = planes.times(denLater, ratios.under(quotient));
            int left = planes.times(planes.times(numLater, quotient), den);
            int right = planes.times(num, denLater);
            int difference = planes.plus(left, right, P - 1);
            int one = planes.times(difference, below);
            int other = planes.times(above, planes.times(den, denLater));
            return room.isZero(planes.plus(one, other, P - 1));
        }

        /** Whether a record holds by numbers: 1, 0, or NONE. */
        int holdsBy(Slot record, Slot s, int n, int low, int high) {
            if (n < 0 || n > VALUES - record.order || low < 0 || low > VALUES || high < 0 || high > VALUES - 1) {
                return NONE;
            }
            int left = 0;
            for (int j = 0; j <= record.order; j++) {
                int sum = terms.sumOf(s, n + j, low, high);
                if (sum < 0) {
                    return NONE;
                }
                left = Numbers.plus(left, Numbers.times(sum, record.stepAt(j, n)));
            }
            int end = certified(record, s, n, high + 1);
            int begin = certified(record, s, n, low);
            if (end < 0 || begin < 0) {
                return NONE;
            }
            return left == Numbers.minus(end, begin) ? 1 : 0;
        }

        /** R's value times that of a value; NONE when one has none. */
        private int certified(Slot record, Slot s, int n, int k) {
            int below = record.sideAt(1, n, k);
            int value = terms.valueOf(s, n, k);
            if (below == 0 || value < 0) {
                return NONE;
            }
            return Numbers.times(value, Numbers.times(record.sideAt(0, n, k), Numbers.inverse(below)));
        }
    }

    /** Rows of numbers by recurrences. */
    static final class Sequences {
        private static final int JOINED_DEGREE = 6;
        private static final int GUESS_ORDER = 4;
        private static final int GUESS_DEGREE = 8;
        private static final int START = 3456789;
        private static final int POINTS = 100000;
        private final Room room;
        private final Planes planes;
        private final Divisors divisors;
        private final Solver solver;
        private final int[] family;
        private final int[] mine;
        private final int[] other;
        private final int[] left;
        private final int[] right;

        Sequences(Room room, Planes planes, Divisors divisors, Solver solver) {
            this.room = room;
            this.planes = planes;
            this.divisors = divisors;
            this.solver = solver;
            family = new int[MOST_ORDER + 2];
            mine = new int[PLACES + 1];
            other = new int[MOST_FIRSTS];
            left = new int[(MOST_ORDER + 1) * MOST_ORDER];
            right = new int[(MOST_ORDER + 1) * MOST_ORDER];
        }

        // ---- the numbers of a row

        int member(Slot s, int i) {
            numbersOf(s, mine, i + 1);
            return i >= 0 && i < mine.length ? mine[i] : NONE;
        }

        /** So many numbers, u(0) and on, of a row that has all its first numbers. */
        private void numbersOf(Slot s, int[] to, int many) {
            for (int i = 0; i < many && i < to.length; i++) {
                int n = i - s.order;
                if (i < s.has && i < s.firsts.length) {
                    to[i] = s.firsts[i];
                } else if (n >= 0) {
                    int sum = 0;
                    for (int j = 0; j < s.order; j++) {
                        sum = Numbers.plus(sum, Numbers.times(s.stepAt(j, n), to[n + j]));
                    }
                    int by = Numbers.inverse(s.stepAt(s.order, n));
                    to[i] = Numbers.times(Numbers.minus(0, sum), by);
                }
            }
        }

        /** How many first numbers the recurrence of the family needs by itself. */
        private int needsOf(int order) {
            int last = family[Math.min(order, family.length - 1)];
            int most = order;
            for (int m = 0; m <= PLACES; m++) {
                if (room.horner(last + 2, room.width(last) + 1, m) == 0) {
                    most = order + 1 + m;
                }
            }
            return most;
        }

        /** The family becomes a row, with first numbers from `mine`, as many as told. */
        private void save(Slot s, int order, int needs, int has) {
            s.wipe();
            s.kind = ROW;
            s.order = order;
            s.needs = needs;
            s.has = has;
            for (int j = 0; j <= order && j < family.length; j++) {
                planes.saveStep(family[j], s, j);
            }
            for (int i = 0; i < has && i < MOST_FIRSTS; i++) {
                s.firsts[i] = mine[i];
            }
        }

        int fromRecord(Slot r, Slot target) {
            for (int j = 0; j <= r.order && j < family.length; j++) {
                family[j] = planes.loadStep(r, j);
            }
            if (r.order < 1 || room.isZero(family[Math.min(r.order, family.length - 1)])) {
                return NONE;
            }
            divisors.cleaned(family, r.order + 1);
            int order = r.order;
            int needs = needsOf(order);
            if (needs > MOST_FIRSTS) {
                return LARGE;
            }
            save(target, order, needs, 0);
            return needs;
        }

        /** The family as a row made of ones that need so many, its numbers being `mine`. */
        private int joinedRow(Slot target, int order, int most) {
            divisors.cleaned(family, order + 1);
            for (int j = 0; j <= order && j < family.length; j++) {
                if (room.width(family[j]) > MOST_N) {
                    return LARGE;
                }
            }
            int needs = Math.max(needsOf(order), most + order);
            if (needs > MOST_FIRSTS) {
                return LARGE;
            }
            save(target, order, needs, needs);
            return order;
        }

        // ---- summed and moved rows

        int moved(boolean summed, Slot s, Slot target) {
            int order = summed ? s.order + 1 : s.order;
            if (order > MOST_ORDER) {
                return LARGE;
            }
            for (int j = 0; j <= s.order && j < family.length; j++) {
                family[j] = planes.loadStep(s, j);
                planes.slideN(family[j], 1);
            }
            if (summed && order < family.length) {
                family[order] = family[order - 1];
                for (int j = order - 1; j > 0; j--) {
                    family[j] = planes.plus(family[j - 1], family[j], P - 1);
                }
                planes.scale(family[0], P - 1);
            }
            numbersOf(s, mine, MOST_FIRSTS + 1);
            for (int i = 0; i < MOST_FIRSTS; i++) {
                mine[i] = !summed ? mine[i + 1] : i == 0 ? mine[0] : Numbers.plus(mine[i - 1], mine[i]);
            }
            return joinedRow(target, order, s.needs);
        }

        // ---- joined and scaled rows

        /** op 0 the sum, 1 the difference, 2 the product of two rows, 5 a row times a polynomial. */
        int joined(int op, Slot s, Slot t, Slot target) {
            int degreeS = degreeOf(s);
            int degreeT = op == 5 ? t.wide(0) : degreeOf(t);
            int most = op == 5 ? s.order : op == 2 ? s.order * t.order : s.order + t.order;
            if (degreeS > JOINED_DEGREE || degreeT > JOINED_DEGREE || most > MOST_ORDER) {
                return LARGE;
            }
            int gapT = op == 5 ? 1 : most - t.order + 1;
            int degree = degreeS * (most - s.order + 1) + degreeT * gapT;
            solver.begin(most, most + 1, 1, (most + 1) * degree);
            for (int x = START; x < START + POINTS && !solver.done && !room.full; x++) {
                if (unfold(s, x, most, left) && (op == 5 || unfold(t, x, most, right))) {
                    putColumns(op, s, t, x, most);
                    solver.point(x);
                }
            }
            if (!solver.done || solver.target < 1) {
                return LARGE;
            }
            int order = Math.min(solver.target, MOST_ORDER);
            for (int j = 0; j <= order; j++) {
                family[j] = solver.factorOf(j);
            }
            numbersOf(s, mine, MOST_FIRSTS);
            if (op != 5) {
                numbersOf(t, other, MOST_FIRSTS);
            }
            for (int i = 0; i < MOST_FIRSTS; i++) {
                int by = op == 5 ? t.sideAt(0, i, 0) : other[i];
                mine[i] = op == 0 ? Numbers.plus(mine[i], by) : op == 1 ? Numbers.minus(mine[i], by)
                        : Numbers.times(mine[i], by);
            }
            return joinedRow(target, order, op == 5 ? s.needs : Math.max(s.needs, t.needs));
        }

        private static int degreeOf(Slot s) {
            int degree = 0;
            for (int j = 0; j <= s.order; j++) {
                for (int i = 0; i <= MOST_N; i++) {
                    degree = s.stepNumber(j, i) != 0 ? Math.max(degree, i) : degree;
                }
            }
            return degree;
        }

        /**
         * u(x), u(x + 1) .. written by the first ones, all times the a_r that are divided by: whether
         * none of these is 0.
         */
        private boolean unfold(Slot s, int x, int most, int[] to) {
            int r = s.order;
            int product = 1;
            for (int i = 0; i <= most && i <= MOST_ORDER; i++) {
                int m = i - r;
                int lead = m < 0 ? 1 : s.stepAt(r, x + m);
                int by = Numbers.minus(0, Numbers.inverse(lead));
                product = Numbers.times(product, lead);
                for (int l = 0; l < r && l < MOST_ORDER; l++) {
                    int sum = 0;
                    for (int j = 0; j < r && m >= 0; j++) {
                        sum = Numbers.plus(sum, Numbers.times(s.stepAt(j, x + m), to[(m + j) * MOST_ORDER + l]));
                    }
                    to[i * MOST_ORDER + l] = m >= 0 ? Numbers.times(sum, by) : i == l ? 1 : 0;
                }
            }
            for (int i = 0; i < to.length; i++) {
                to[i] = Numbers.times(to[i], product);
            }
            return product != 0;
        }

        private void putColumns(int op, Slot s, Slot t, int x, int most) {
            int r = s.order;
            int q = op == 5 ? 1 : t.order;
            for (int i = 0; i <= most && i <= MOST_ORDER; i++) {
                int base = i * MOST_ORDER;
                int by = op == 5 ? t.sideAt(0, x + i, 0) : 1;
                for (int l = 0; l < r && l < MOST_ORDER; l++) {
                    for (int m = 0; m < q && m < MOST_ORDER && op == 2; m++) {
                        solver.put(l * q + m, i, Numbers.times(left[base + l], right[base + m]));
                    }
                    if (op != 2) {
                        solver.put(l, i, Numbers.times(left[base + l], by));
                    }
                }
                for (int l = 0; l < q && l < MOST_ORDER && op <= 1; l++) {
                    solver.put(r + l, i, op == 0 ? right[base + l] : Numbers.minus(0, right[base + l]));
                }
            }
        }

        // ---- guessed rows

        int guessed(int[] fed, int count, Slot target) {
            for (int r = 1; r <= GUESS_ORDER; r++) {
                for (int d = 0; d <= GUESS_DEGREE && (r + 1) * (d + 1) + 4 <= count - r; d++) {
                    room.empty();
                    if (isGuess(r, d, fed, count)) {
                        return guessRow(r, d, fed, count, target);
                    }
                }
            }
            return NONE;
        }

        private boolean isGuess(int r, int d, int[] fed, int count) {
            solver.begin(count - r, (r + 1) * (d + 1), 0, 0);
            for (int n = 0; n < count - r; n++) {
                for (int j = 0; j <= r && n + j < fed.length; j++) {
                    int v = fed[n + j];
                    for (int i = 0; i <= d; i++) {
                        solver.put(n, j * (d + 1) + i, v);
                        v = Numbers.times(v, n);
                    }
                }
            }
            solver.point(START);
            return solver.target >= 0;
        }

        private int guessRow(int r, int d, int[] fed, int count, Slot target) {
            for (int j = 0; j <= r && j < family.length; j++) {
                family[j] = room.block(d, 0);
                for (int i = 0; i <= d; i++) {
                    int mark = room.top;
                    int number = room.get(solver.factorOf(j * (d + 1) + i) + 2);
                    room.release(mark);
                    room.put(family[j] + 2 + i, number);
                }
                room.trim(family[j]);
            }
            if (room.isZero(family[Math.min(r, family.length - 1)])) {
                return NONE;
            }
            divisors.cleaned(family, r + 1);
            int needs = needsOf(r);
            if (needs > MOST_FIRSTS || needs > count) {
                return NONE;
            }
            for (int i = 0; i < count && i < mine.length && i < fed.length; i++) {
                mine[i] = fed[i];
            }
            save(target, r, needs, needs);
            return r;
        }
    }
}
