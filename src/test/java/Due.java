/** What the tests share: calls with the answers that are due, and texts by way of the tape. */
final class Due {
    private static int wrong = 0;
    private static String about = "";

    private Due() {
    }

    /** What comes is for a promise (or a section of "Terms") and one of its sentences. */
    static void of(String where, String sentence) {
        about = where + ", \"" + sentence + "\": ";
    }

    static void due(String what, long got, long want) {
        if (got != want) {
            wrong++;
            System.out.println(about + what + " answered " + got + ", due is " + want);
        }
    }

    static void due(String what, String got, String want) {
        if (!got.equals(want)) {
            wrong++;
            System.out.println(about + what + " answered " + got + ", due is " + want);
        }
    }

    /** Ends the test: exit code 1 if an answer was not the one that is due. */
    static void end() {
        if (wrong != 0) {
            System.out.println(wrong + " answers are not as due");
            System.exit(1);
        }
    }

    static void type(SumHouse house, String text) {
        for (int i = 0; i < text.length(); i++) {
            house.type(text.charAt(i), 1);
        }
    }

    static int read(SumHouse house, String text, int to) {
        type(house, text);
        return house.read(to);
    }

    /** A house with a text read into each slot from 0 on. */
    static SumHouse house(String... texts) {
        SumHouse house = new SumHouse();
        for (int i = 0; i < texts.length; i++) {
            if (read(house, texts[i], i) < 0) {
                due("reading " + texts[i], -1, 1);
            }
        }
        return house;
    }

    /** What write() writes of a slot, or its answer below 0. */
    static String text(SumHouse house, int slot) {
        int count = house.write(slot);
        if (count < 0) {
            return String.valueOf(count);
        }
        StringBuilder text = new StringBuilder();
        for (int i = 0; i < count; i++) {
            text.append((char) house.written(i));
        }
        return text.toString();
    }

    /** That a slot has what a text is: the text written, the kind, and all degrees. */
    static void same(String what, SumHouse house, int slot, String text) {
        SumHouse other = house(text);
        due(what, text(house, slot), text(other, 0));
        due("kind of " + what, house.kind(slot), other.kind(0));
        for (int i = 0; i < 4; i++) {
            due("degree " + i + " of " + what, house.degree(slot, i / 2, i % 2), other.degree(0, i / 2, i % 2));
        }
    }

    /** A text as the house writes it. */
    static String plain(String text) {
        return text(house(text), 0);
    }

    /** What came of a call into a slot, as text; the answer itself if that is below 0. */
    static String came(SumHouse house, int answer, int slot) {
        return answer < 0 ? String.valueOf(answer) : text(house, slot);
    }
}
