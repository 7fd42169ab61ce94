/** Promises 2 to 7: the tape, reading and its faults, writing. */
public final class TapeTest {
    public static void main(String[] args) {
        typing();
        kinds();
        faults();
        faultOne();
        faultTwo();
        faultThree();
        faultFour();
        writing();
        again();
        exactly400();
        exactly4000();
        Due.end();
    }

    private static void typing() {
        SumHouse h = new SumHouse();
        Due.due("type of 0 bytes", h.type(65, 0), -1);
        Due.due("type of 9 bytes", h.type(65, 9), -1);
        Due.due("type of -1 bytes", h.type(65, -1), -1);
        Due.due("type of the lowest two", h.type(0x7F2A6E31L, 2), 2);
        Due.due("its reading: n1", h.read(0), -11);
        Due.due("its place", h.place(), 1);
        Due.due("the highest first", h.type(0x6E2B6BL, 3), 3);
        Due.due("n+k", h.read(0), 1);
        Due.due("n+k written", Due.text(h, 0).equals("k+n") ? 1 : 0, 1);
        for (int i = 1; i <= 50; i++) {
            Due.due("eight more", h.type(0x2020202020202020L, 8), 8 * i);
        }
        Due.due("one above 400", h.type(32, 1), -1);
        Due.due("still 400", h.count(0), 400);
        Due.due("only blanks", h.read(0), -11);
        Due.due("at the end", h.place(), 400);
        Due.due("the tape is empty then", h.count(0), 0);
        Due.type(h, "n".repeat(393));
        Due.due("8 bytes for 7 places", h.type(0, 8), -1);
        Due.due("7 for 7", h.type(0, 7), 400);
    }

    private static void kinds() {
        SumHouse h = new SumHouse();
        Due.due("no place yet", h.place(), -1);
        Due.due("a ratio", Due.read(h, "n/k", 3), 1);
        Due.due("a term", Due.read(h, "n!", 3), 2);
        Due.due("a power as a term", Due.read(h, "2^n", 3), 2);
        Due.due("a term that is a ratio", Due.read(h, "n!/n!", 3), 1);
        Due.due("1^n is 1", Due.read(h, "1^n", 3), 1);
        Due.due("slot 12", Due.read(h, "n", 12), -1);
        Due.due("the tape stays", h.count(0), 1);
        Due.due("slot -1", h.read(-1), -1);
        Due.due("then it is read", h.read(11), 1);
        Due.due("a fault", Due.read(h, "1/0", 3), -13);
        Due.due("its place", h.place(), 1);
        Due.due("nothing came: 1 stays", Due.text(h, 3).equals("1") ? 1 : 0, 1);
        Due.due("no fault any more", Due.read(h, "5", 3), 1);
        Due.due("no place", h.place(), -1);
    }

    private static void fault(String text, int fault, int place) {
        SumHouse h = new SumHouse();
        Due.due("reading '" + text + "'", Due.read(h, text, 0), -10 - fault);
        Due.due("its place", h.place(), place);
        Due.due("slot of '" + text + "'", h.kind(0), 0);
    }

    private static void fine(String text, String written) {
        SumHouse h = new SumHouse();
        int kind = Due.read(h, text, 0);
        Due.due("reading '" + text + "'", kind > 0 ? 1 : kind, 1);
        Due.due("writing '" + text + "'", Due.text(h, 0), written);
    }

    private static void faults() {
        fault("", 1, 0);
        fault("1+1/0*(n!+1)", 3, 3);
        fault("(n!+1)/0", 2, 3);
        fault("n!+1/0", 3, 4);
        fault("-n^13*k^7*k^7", 4, 9);
        fine(" ( n )  + 1 ", "n+1");
        fine("-n", "-n");
        fine("-2^2", "-4");
        fine("(-2)^2", "4");
        fine("2*n-3*k/4*4", "-3*k+2*n");
        fine("6/3/2", "1");
        fine("0^0", "1");
        fine("n!^0", "1");
        fine("2147483648", "1");
        fine("1073741823", "1073741823");
        fine("1073741824", "-1073741823");
    }

    private static void faultOne() {
        fault("1a", 1, 1);
        fault("n k", 1, 2);
        fault("1 2", 1, 2);
        fault("12345678901", 1, 10);
        fine("1234567890", "-912915757");
        fault("n!!", 1, 2);
        fault("n^2^2", 1, 3);
        fault("n^2!", 1, 3);
        fault("n+", 1, 2);
        fault("(n", 1, 2);
        fault("n)", 1, 1);
        fault("n+-k", 1, 2);
        fault("n--k", 1, 2);
        fault("C n", 1, 2);
        fault("C(n)", 1, 3);
        fault("C(n,k,n)", 1, 5);
        fault("(n,k)", 1, 2);
        fault("*n", 1, 0);
        fault("  ", 1, 2);
        fine("C ( n , k )", "(1)/(k)!/(-k+n)!*(n)!");
        fine("(".repeat(20) + "n" + ")".repeat(20), "n");
        fault("(".repeat(21) + "n" + ")".repeat(21), 1, 20);
        fault("(".repeat(20) + "C(n,k)" + ")".repeat(20), 1, 21);
        fault("(".repeat(20) + "C", 1, 21);
        fault("(".repeat(20) + "C+", 1, 21);
        fine("(".repeat(19) + "C(n,0)" + ")".repeat(19), "1");
    }

    private static void faultTwo() {
        fault("n!+n!", 2, 2);
        fault("n!-0", 2, 2);
        fault("(n/k)!", 2, 5);
        fault("(4*n)!", 2, 5);
        fault("(n*k)!", 2, 5);
        fault("(n^2)!", 2, 5);
        fault("(k^2+n)!", 2, 7);
        fault("2^(k^2)", 2, 1);
        fault("51!", 2, 2);
        fault("(n-51)!", 2, 6);
        fault("n!^n", 2, 2);
        fault("n^k", 2, 1);
        fault("2^(n/2)", 2, 1);
        fault("2^51", 2, 1);
        fault("C(n/2,k)", 2, 0);
        fault("2*C(3*n,-k-k-n)", 2, 2);
    }

    private static void faultThree() {
        fault("n/(k-k)", 3, 1);
        fault("(0-1)!", 3, 5);
        fault("C(2,3)", 3, 0);
        fault("C(-1,0)", 3, 0);
        fault("C(n,0-1)", 3, 0);
        fault("C(0-1,k)", 3, 0);
        fault("k*C(n,n+1)", 3, 2);
        fault("0^n", 3, 1);
        fault("0^(0-1)", 3, 1);
        fine("C(5,2)", "10");
        fine("0*n!", "0");
        fine("0/n!", "0");
    }

    private static void faultFour() {
        fault("n^25", 4, 1);
        fault("k^13", 4, 1);
        fault("1/k^7/k^6", 4, 5);
        fault("n!^13", 4, 2);
        fault("(n!/k!)^6*n!", 4, 9);
        fine("(n!/k!)^6", "(1)/(k)!^6*(n)!^6");
        fine("n!^12/n!^12*n!", "(1)*(n)!");
        fine("n^24*k^12", "n^24*k^12");
        fine("1/n^24", "(1)/(n^24)");
        fine("1/k^12", "(1)/(k^12)");
    }

    private static void writing() {
        fine("(k+1)/(2*k+4)", "(-1073741823*k-1073741823)/(k+2)");
        fine("C(n,k)", "(1)/(k)!/(-k+n)!*(n)!");
        fine("2^n*3^k*n/k", "((n)/(k))*2^n*3^k");
        fine("(-1)^k*(2*n-3*k+4)!^2/(k-1)!^3", "(1)*2147483646^k/(k-1)!^3*(-3*k+2*n+4)!^2");
        fine("k*n-n^2-1+k^2", "k^2+n*k-n^2-1");
        fine("0", "0");
        SumHouse h = Due.house("n", "C(n,k)");
        h.recur(1, 1, 2);
        Due.due("write of a record", h.write(2), -3);
        Due.due("write of an empty slot", h.write(5), -3);
        Due.due("write of slot 12", h.write(12), -1);
        Due.due("nothing written yet", h.written(0), -1);
        Due.due("write n", h.write(0), 1);
        Due.due("written", h.written(0), 'n');
        Due.due("behind it", h.written(1), -1);
        Due.due("ahead of it", h.written(-1), -1);
        Due.due("KIND changes nothing", h.write(2), -3);
        Due.due("still n", h.written(0), 'n');
        Due.read(h, "((n+12345)^24*(k+54321)^12)/(n^2+k+1)", 3);
        Due.due("more than 4000 bytes", h.write(3), -2);
        Due.due("still n written", h.count(1), 1);
    }

    private static void again() {
        SumHouse h = Due.house("C(2*n,k)/3^n", "(n+5)^24*(k+1)");
        Due.due("nothing becomes the tape", h.again(), 0);
        Due.type(h, "n+");
        int count = h.write(0);
        Due.due("what was written becomes the tape", h.again(), count);
        Due.due("which it replaces", h.count(0), count);
        Due.due("and is read", h.read(2), 2);
        Due.due("as the same", Due.text(h, 2), Due.text(h, 0));
        Due.type(h, "k");
        Due.due("more than 400 bytes", h.write(1) > 400 ? 1 : 0, 1);
        Due.due("is too large", h.again(), -2);
        Due.due("and nothing is done", h.count(0), 1);
    }

    /** A polynomial of 20 parts whose text has 400 bytes if the first number has ten digits. */
    private static String parts(String firstNumber, String secondNumber) {
        StringBuilder text = new StringBuilder();
        for (int part = 0; part < 20; part++) {
            String number = part == 0 ? firstNumber : part == 1 ? secondNumber : "123456789";
            text.append(part == 0 ? "" : "+").append(number);
            text.append("*n^").append(24 - part % 10).append("*k^").append(12 - part / 10);
        }
        return text.toString();
    }

    private static void exactly400() {
        SumHouse h = new SumHouse();
        String text = parts("1023456789", "123456789");
        Due.due("400 bytes", text.length(), 400);
        Due.due("are read", Due.read(h, text, 0), 1);
        Due.due("and written", Due.text(h, 0), text);
        Due.due("and become the tape", h.again(), 400);
        Due.due("are read again", h.read(1), 1);
        Due.read(h, "900000000*n^23*k^12", 2);
        h.work(0, 0, 2, 0);
        Due.due("401 bytes", Due.text(h, 0), parts("1023456789", "1023456789"));
        Due.due("do not", h.again(), -2);
    }

    /** A house with a polynomial in slot 0 of so many bytes as text, 4000 or a little less. */
    private static SumHouse filled(int bytes) {
        SumHouse h = Due.house("0");
        for (int j = 12; j >= 2; j--) {
            for (int i = 24; i >= 10; i--) {
                addPart(h, "1023456789", i, j);
            }
        }
        for (int j = 9; j >= 2; j--) {
            for (int i = 9; i >= 2; i--) {
                // the last two share what is left; a sign and the letters take 9 bytes
                int left = bytes - h.write(0);
                int size = left > 38 ? 19 : left > 19 ? left / 2 : left;
                if (size > 9) {
                    addPart(h, "1023456789".substring(0, size - 9), i, j);
                }
            }
        }
        Due.due("bytes", h.write(0), bytes);
        return h;
    }

    private static void exactly4000() {
        SumHouse g = filled(3999);
        Due.read(g, "7", 1);
        g.work(0, 0, 1, 0);
        Due.due("4001 bytes", g.write(0), -2);
        Due.due("3999 are still written", g.count(1), 3999);
        SumHouse h = filled(4000);
        Due.due("the last one", h.written(3999) >= 0 ? 1 : 0, 1);
        Due.due("no 4001st", h.written(4000), -1);
        Due.read(h, "7", 1);
        h.work(0, 0, 1, 0);
        Due.due("4002 bytes", h.write(0), -2);
        Due.due("4000 are still written", h.count(1), 4000);
        h.work(1, 0, 1, 0);
        Due.read(h, "9*n^24*k^12", 1);
        Due.read(h, "1023456789*n^24*k^12", 2);
        h.work(1, 0, 2, 0);
        h.work(0, 0, 1, 0);
        Due.due("nine bytes less", h.write(0), 3991);
    }

    private static void addPart(SumHouse h, String number, int i, int j) {
        Due.read(h, number + "*n^" + i + "*k^" + j, 1);
        h.work(0, 0, 1, 0);
    }
}
