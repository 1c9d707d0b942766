import java.io.IOException;
import java.nio.file.Files;
import java.nio.file.Path;
import java.util.ArrayDeque;
import java.util.Deque;

/** The example in README.md: each line of it that tells an answer, in its order. */
public final class ReadmeTest {
    private static final Check CHECK = new Check();
    private static final String ANSWER = "// ";

    private final Deque<String> lines = new ArrayDeque<>();

    public static void main(String[] args) throws IOException {
        new ReadmeTest().run();
        CHECK.end("ReadmeTest");
    }

    private ReadmeTest() throws IOException {
        for (String line : Files.readAllLines(Path.of("README.md"))) {
            if (line.startsWith("    ") && line.contains(ANSWER)) {
                lines.add(line.strip());
            }
        }
    }

    private void run() {
        OriginRally rally = new OriginRally();
        tells("rally.setStart(16 * 8 + 8);", rally.setStart(16 * 8 + 8));
        tells("rally.addEntry(3, 1);", rally.addEntry(3, 1));
        tells("rally.addEntry(2, 1);", rally.addEntry(2, 1));
        tells("rally.addGate(0, 2);", rally.addGate(0, 2));
        tells("rally.addGate(1, 0);", rally.addGate(1, 0));
        tells("rally.due(0);", rally.due(0));
        tells("rally.enter();", rally.enter());
        tells("rally.enter();", rally.enter());
        tells("rally.drive(0, 3, 1);", rally.drive(0, 3, 1));
        tells("rally.byTrack(0, 0);", rally.byTrack(0, 0));
        tells("rally.byTrack(0, 1);", rally.byTrack(0, 1));
        tells("rally.points(0);", rally.points(0));
        tells("rally.record(0, 1, 6);", rally.record(0, 1, 6));
        tells("rally.points(0);", rally.points(0));
        tells("rally.appeal(0, 1);", rally.appeal(0, 1));
        tells("rally.cut(1);", rally.cut(1));
        tells("rally.points(0);", rally.points(0));
        tells("rally.bring(2, OriginRally.TENT);", rally.bring(2, OriginRally.TENT));
        tells("rally.hand(0, 1);", rally.hand(0, 1));
        rally.breakDown(1, 2);
        tells("rally.mend(1);", rally.mend(1));
        tells("rally.clock(1);", rally.clock(1));
        tells("rally.where(0);", rally.where(0));
        tells("rally.table(0);", rally.table(0));
        CHECK.same("lines of README.md that are not asked", 0, lines.size());
    }

    /** The next line of the example must show this call, and behind it this answer. */
    private void tells(String call, Object got) {
        String line = lines.isEmpty() ? "" : lines.remove();
        int behind = line.indexOf(ANSWER);
        CHECK.yes("README.md shows next " + call, behind >= 0 && line.startsWith(call));
        String told = behind < 0 ? "" : line.substring(behind + ANSWER.length()).split("[ ,:]")[0];
        CHECK.same("README.md tells of " + call, told, String.valueOf(got));
    }
}
