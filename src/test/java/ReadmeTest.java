import java.io.IOException;
import java.nio.file.Files;
import java.nio.file.Path;
import java.util.ArrayList;
import java.util.List;

/** The example in README.md: its calls are those below, in their order, and each answers what its comment begins with. */
public final class ReadmeTest {
    private final Due due = new Due();
    private final List<String> lines = new ArrayList<>();
    private int next;

    public static void main(String[] args) throws IOException {
        ReadmeTest test = new ReadmeTest();
        test.readExample(Path.of("README.md"));
        test.due.sentence("README.md says how to use the class", "its example answers as it says");
        test.example();
        test.due.same("calls of the example", test.lines.size(), test.next);
        test.due.end();
    }

    private void readExample(Path readme) throws IOException {
        boolean inside = false;
        for (String line : Files.readAllLines(readme)) {
            if (line.startsWith("```")) {
                inside = line.equals("```java");
            } else if (inside && line.contains("panels.")) {
                lines.add(line);
            }
        }
    }

    private void example() {
        TasterPanels panels = new TasterPanels(7L);
        int anna = panels.taster();
        shows("taster()", anna);
        int bert = panels.taster();
        shows("taster()", bert);
        int triangle = panels.test(0, 3);
        shows("test(0, 3)", triangle);
        for (int k = 0; k < 4; k++) {
            shows("order(triangle, anna, " + k + ")", panels.order(triangle, anna, k));
        }
        shows("answer(triangle, anna, 2)", panels.answer(triangle, anna, 2));
        shows("answer(triangle, anna, 1)", panels.answer(triangle, anna, 1));
        shows("answer(triangle, bert, 0)", panels.answer(triangle, bert, 0));
        shows("right(triangle)", panels.right(triangle));
        shows("chance(triangle, 0)", panels.chance(triangle, 0));
        shows("chance(triangle, 1)", panels.chance(triangle, 1));
        rankingOf(panels, anna);
        shows("threshold(anna)", panels.threshold(anna));
        shows("level(anna, 3, true)", panels.level(anna, 3, true));
        shows("threshold(anna)", panels.threshold(anna));
        shows("level(anna, 1, false)", panels.level(anna, 1, false));
        shows("threshold(anna)", panels.threshold(anna));
        shows("out(anna)", panels.out(anna));
        shows("size(0, 1L, 20L)", panels.size(0, 1L, 20L));
        shows("row(10)", panels.row(10));
        shows("test(3, 6)", panels.test(3, 6));
    }

    private void rankingOf(TasterPanels panels, int anna) {
        int ranking = panels.test(3, 3);
        shows("test(3, 3)", ranking);
        shows("rank(ranking, anna, 0, 1)", panels.rank(ranking, anna, 0, 1));
        shows("rank(ranking, anna, 1, 1)", panels.rank(ranking, anna, 1, 1));
        shows("rank(ranking, anna, 1, 2)", panels.rank(ranking, anna, 1, 2));
        shows("permuted(ranking, 0)", panels.permuted(ranking, 0));
        shows("rank(ranking, anna, 2, 3)", panels.rank(ranking, anna, 2, 3));
        shows("permuted(ranking, 0)", panels.permuted(ranking, 0));
        shows("permuted(ranking, 1)", panels.permuted(ranking, 1));
    }

    /** The next call of the example is this one, and its comment begins with this answer. */
    private void shows(String call, Object answer) {
        String line = next < lines.size() ? lines.get(next) : "panels. // ";
        next++;
        String[] parts = line.substring(line.indexOf("panels.")).split("//", 2);
        String said = parts.length < 2 ? "" : parts[1].split(":", 2)[0].strip();
        due.same("call " + next + " of the example", parts[0].strip(), "panels." + call + ";");
        due.same(call, answer.toString(), said);
    }
}
