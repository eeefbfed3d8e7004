import java.io.IOException;
import java.nio.file.Files;
import java.nio.file.Path;
import java.util.ArrayList;
import java.util.List;

/** README.md: "each answer stands behind its call". */
public final class ReadmeTest {
    private final Check check = new Check();
    private final List<String> told;
    private int next = 0;

    private ReadmeTest(List<String> told) {
        this.told = told;
    }

    public static void main(String[] args) throws IOException {
        List<String> lines = Files.readAllLines(Path.of("README.md"));
        ReadmeTest test = new ReadmeTest(linesWithAnswers(lines));
        test.example(textOf(lines));
        test.check.finish();
    }

    private void example(String text) {
        GasContract x = new GasContract();
        for (int i = 0; i < text.length(); i++) {
            x.put(text.charAt(i));
        }
        told("x.compile();", x.compile());
        told("x.functions(-1);", x.functions(-1));
        told("x.functions(1);", x.functions(1));
        told("x.call(1, 1000, 5, 7, 0);", x.call(1, 1000, 5, 7, 0));
        told("x.result(0);", x.result(0));
        told("x.result(1);", x.result(1));
        told("x.load(5);", x.load(5));
        told("x.stored();", x.stored());
        told("x.call(1, 1000, 5, 0, 0);", x.call(1, 1000, 5, 0, 0));
        told("x.call(1, 119, 5, 7, 0);", x.call(1, 119, 5, 7, 0));
        told("x.result(0);", x.result(0));
        told("x.result(1);", x.result(1));
        told("x.result(2);", x.result(2));
        told("x.load(5);", x.load(5));
        x.end(85);
        told("x.end(85);", "without");
        told("x.compile();", x.compile());
        told("x.functions(-1);", x.functions(-1));
        told("x.put('}');", x.put('}'));
        told("x.compile();", x.compile());
        check.due("lines of the example", next, told.size());
    }

    private void told(String call, int answer) {
        told(call, Integer.toString(answer));
    }

    /** README.md's next line has this call, and this as the first word behind it. */
    private void told(String call, String answer) {
        String line = next < told.size() ? told.get(next) : "";
        next++;
        String got = call + " // " + answer + " ";
        boolean same = line.replaceAll(" +// ", " // ").startsWith(got);
        check.due("README.md's line " + line + " where the call is " + got, same ? 1 : 0, 1);
    }

    private static List<String> linesWithAnswers(List<String> lines) {
        List<String> found = new ArrayList<>();
        for (String line : lines) {
            if (line.startsWith("x.") && line.contains(" // ")) {
                found.add(line);
            }
        }
        return found;
    }

    private static String textOf(List<String> lines) {
        for (String line : lines) {
            if (line.startsWith("String text = ")) {
                return line.substring(line.indexOf('"') + 1, line.lastIndexOf('"'));
            }
        }
        return "";
    }
}
