import java.util.ArrayList;
import java.util.List;

/**
 * Promises 3 and 4 for all short texts: fault 1 and its place, by the document's grammar alone (Earley's way: the
 * parts of rules that may be under way behind each byte; with none, the bytes up to it are no beginning of an E).
 */
public final class GrammarTest {
    private static final String BYTES = "1nC+-*/^(),! x";
    private static final int LONGEST = 7;
    // the first sign of a rule is what it makes; of the others C, n and what is no letter are bytes, _ stands for blanks
    private static final String[] RULES = {
        "S_E", "ET", "E-_T", "TU", "TT+_U", "TT-_U", "UW", "UU*_W", "UU/_W", "WV", "WV^_B", "VB", "VB!_",
        "BN_", "N1", "N1N", "Bn_", "B(_E)_", "BC_(_E,_E)_", "_ ", "__ ",
    };
    private static final String MADE = "SETUWVBN_";
    private static final int TEXTS_OF_ONE = 60;
    private static SumHouse house = new SumHouse();
    private static int texts = 0;

    /** A rule of which some signs are done, begun behind some byte. */
    private record Part(int rule, int done, int from) {
        char next() {
            return done + 1 < RULES[rule].length() ? RULES[rule].charAt(done + 1) : 0;
        }

        Part further() {
            return new Part(rule, done + 1, from);
        }
    }

    public static void main(String[] args) {
        Due.of("Terms 3", "FAULT 1: the first byte with which the bytes up to it are no beginning of an E");
        List<List<Part>> under = new ArrayList<>();
        List<Part> first = new ArrayList<>();
        first.add(new Part(0, 0, 0));
        under.add(first);
        complete(under);
        look("", under);
        Due.due("there were enough texts", texts > 500000 ? 1 : 0, 1);
        Due.end();
    }

    /** A beginning of an E as a text, and with each byte more. */
    private static void look(String text, List<List<Part>> under) {
        boolean whole = under.get(text.length()).stream().anyMatch(p -> p.rule == 0 && p.next() == 0);
        fault(text, !whole, text.length());
        if (text.length() >= LONGEST) {
            return;
        }
        for (char sign : BYTES.toCharArray()) {
            List<Part> more = new ArrayList<>();
            for (Part part : under.get(text.length())) {
                if (part.next() == sign && MADE.indexOf(sign) < 0) {
                    more.add(part.further());
                }
            }
            if (more.isEmpty()) {
                fault(text + sign + "n", true, text.length());
            } else {
                List<List<Part>> next = new ArrayList<>(under);
                next.add(more);
                complete(next);
                look(text + sign, next);
            }
        }
    }

    private static void complete(List<List<Part>> under) {
        int here = under.size() - 1;
        List<Part> parts = under.get(here);
        for (int i = 0; i < parts.size(); i++) {
            Part part = parts.get(i);
            if (part.next() == 0) {
                for (Part outer : List.copyOf(under.get(part.from))) {
                    add(parts, outer.next() == RULES[part.rule].charAt(0) ? outer.further() : null);
                }
            }
            for (int rule = 0; rule < RULES.length; rule++) {
                boolean begins = part.next() != 0 && RULES[rule].charAt(0) == part.next();
                add(parts, begins ? new Part(rule, 0, here) : null);
            }
            // blanks may be none
            add(parts, part.next() == '_' ? part.further() : null);
        }
    }

    private static void add(List<Part> parts, Part part) {
        if (part != null && !parts.contains(part)) {
            parts.add(part);
        }
    }

    private static void fault(String text, boolean expected, int place) {
        if (texts % TEXTS_OF_ONE == 0) {
            house = new SumHouse();
        }
        texts++;
        int answer = Due.read(house, text, 0);
        Due.due("whether \"" + text + "\" has fault 1", answer == -11 ? 1 : 0, expected ? 1 : 0);
        if (expected) {
            Due.due("the place in \"" + text + "\"", house.place(), place);
        }
    }
}
