import java.io.IOException;
import java.nio.file.DirectoryStream;
import java.nio.file.Files;
import java.nio.file.Path;

/**
 * Long runs of calls under src/test/runs, each line a call with the answer that is due. These answers
 * came from models of the document that share no code with the class (fractions in n worked out
 * one by one, Euclid along k, a parser that calls itself).
 */
public final class RecordedRunsTest {
    public static void main(String[] args) throws IOException {
        int calls = 0;
        try (DirectoryStream<Path> files = Files.newDirectoryStream(Path.of("src/test/runs"), "*.txt")) {
            for (Path file : files) {
                calls += run(file);
            }
        }
        Due.due("there are calls", calls > 10000 ? 1 : 0, 1);
        Due.end();
    }

    private static int run(Path file) throws IOException {
        SumHouse house = new SumHouse();
        int line = 0;
        for (String text : Files.readAllLines(file)) {
            line++;
            if (text.equals("new")) {
                house = new SumHouse();
                continue;
            }
            String[] parts = text.split(" = ");
            String[] words = parts[0].split(" ");
            long[] v = new long[8];
            for (int i = 1; i < words.length; i++) {
                v[i - 1] = Long.parseLong(words[i]);
            }
            Due.due(file.getFileName() + " line " + line + ": " + parts[0], answer(house, words[0], v),
                    Long.parseLong(parts[1]));
        }
        return line;
    }

    private static int answer(SumHouse h, String call, long[] v) {
        int a = (int) v[0];
        int b = (int) v[1];
        int c = (int) v[2];
        int d = (int) v[3];
        int e = (int) v[4];
        switch (call) {
            case "type": return h.type(v[0], b);
            case "read": return h.read(a);
            case "place": return h.place();
            case "write": return h.write(a);
            case "written": return h.written(a);
            case "again": return h.again();
            case "kind": return h.kind(a);
            case "drop": return h.drop(a);
            case "degree": return h.degree(a, b, c);
            case "number": return h.number(a, b, c, d);
            case "told": return h.told(a, b);
            case "factorial": return h.factorial(a, b, c);
            case "work": return h.work(a, b, c, d);
            case "change": return h.change(a, b, c, d);
            case "value": return h.value(a, b, c);
            case "sum": return h.sum(a, b, c, d);
            case "quotient": return h.quotient(a, b, c);
            case "form": return h.form(a, b, c);
            case "close": return h.close(a, b);
            case "recur": return h.recur(a, b, c);
            case "part": return h.part(a, b, c);
            case "check": return h.check(a, b);
            case "poke": return h.poke(a, b, c, d, e);
            case "holds": return h.holds(a, b, c, d, e);
            case "row": return h.row(a, b);
            case "first": return h.first(a, b);
            case "at": return h.at(a, b);
            case "join": return h.join(a, b, c, d);
            case "feed": return h.feed(a);
            case "clear": return h.clear();
            case "guess": return h.guess(a);
            case "roots": return h.roots(a);
            case "root": return h.root(a);
            case "solve": return h.solve(a, b);
            case "count": return h.count(a);
            default: throw new IllegalArgumentException(call);
        }
    }
}
