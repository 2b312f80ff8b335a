import java.io.IOException;
import java.nio.file.Files;
import java.nio.file.Path;
import java.util.List;

/** The example of README.md stands there as it is run here, with the answers beside it. */
public final class ReadmeTest extends Calls {
    private static List<String> lines;

    public static void main(String[] args) throws IOException {
        lines = Files.readAllLines(Path.of("README.md"));
        check.part("the example of README.md");
        example();
        check.part("the calls that README.md tells of");
        for (String call : List.of("new CranePlan(cranes, gap)", "bay(hatch, work)",
                "rate(crane, moves, minutes)", "step(minutes)", "plan()", "works(crane, time)",
                "where(crane, time)", "fails(crane, time)", "bound()", "row(i, what)",
                "look(bay, what)", "count(what)")) {
            dueLine("| `" + call + "` |");
        }
        dueLine(".ci/run");
        check.end();
    }

    private static void example() {
        dueLine("CranePlan quay = new CranePlan(2, 1);");
        x = new CranePlan(2, 1);
        dueLine("quay.bay(5, 20);");
        dueBay(0, 5, 20);
        dueLine("quay.bay(0, 10);");
        dueBay(1, 0, 10);
        dueLine("quay.bay(0, 30);");
        dueBay(2, 0, 30);
        dueLine("quay.bay(0, 12);");
        dueBay(3, 0, 12);
        dueLine("quay.rate(1, 2, 1);");
        dueRate(true, 1, 2, 1);
        dueLine("quay.step(3);");
        dueStep(true, 3);
        dueLine("int finish = quay.plan();               // 38: crane 0 does bays 0 and 1, crane 1 bays 2 and 3");
        duePlan(38);
        dueCranes(0, 0, 1, 1);
        dueLine("int bay = quay.works(0, 30);            // 1:");
        dueWorks(1, 0, 30);
        dueLine("int anew = quay.fails(1, 10);           // 56:");
        dueFails(56, 1, 10);
    }

    private static void dueLine(String begin) {
        check.due(true, "a line that begins with " + begin,
                () -> lines.stream().anyMatch(line -> line.startsWith(begin)));
    }
}
