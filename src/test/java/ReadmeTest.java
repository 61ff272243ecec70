import java.io.IOException;
import java.nio.file.Files;
import java.nio.file.Path;
import java.util.ArrayList;
import java.util.List;

/** The run of calls in README.md: each has the answer that stands beside it, and none is left out here. */
public final class ReadmeTest {
    private static final String NEW_HOUSE = "HouseBells house = new HouseBells();";

    private final HouseBells house = new HouseBells();
    private final List<String> lines;
    private int next;

    private ReadmeTest(List<String> lines) {
        this.lines = lines;
    }

    public static void main(String[] args) throws IOException {
        ReadmeTest readme = new ReadmeTest(runOfReadme());
        readme.run();
        Check.due("lines of README.md", readme.next, readme.lines.size());
        Check.finish("ReadmeTest");
    }

    /** The lines from that with the new house to the end of their block. */
    private static List<String> runOfReadme() throws IOException {
        List<String> all = Files.readAllLines(Path.of("README.md"));
        List<String> run = new ArrayList<>();
        for (int at = all.indexOf(NEW_HOUSE) + 1; at < all.size() && !all.get(at).equals("```"); at++) {
            run.add(all.get(at));
        }
        return run;
    }

    private void run() {
        line("house.addRoom(3, 5, 2);", () -> house.addRoom(3, 5, 2));
        line("house.addRoom(1, 4, 1);", () -> house.addRoom(1, 4, 1));
        line("house.addServant(2);", () -> house.addServant(2));
        line("house.ring(0);", () -> house.ring(0));
        line("house.charge();", () -> house.charge());
        line("house.nextDrop();", () -> house.nextDrop());
        line("house.minutesUntilServed(0);", () -> house.minutesUntilServed(0));
        line("house.pass(3);", () -> house.pass(3));
        line("house.serves(0);", () -> house.serves(0));
        line("house.cross(0, 1);", () -> house.cross(0, 1));
        line("house.ring(1);", () -> house.ring(1));
        line("house.hasFallen(0);", () -> house.hasFallen(0));
        line("house.pass(3);", () -> house.pass(3));
        line("house.inVain();", () -> house.inVain());
        line("house.waitedFor(1);", () -> house.waitedFor(1));
        line("house.bestToCross(1);", () -> house.bestToCross(1));
        line("house.cross(1, 0);", () -> house.cross(1, 0));
        line("house.minutesUntilServed(1);", () -> house.minutesUntilServed(1));
        line("house.meanWait();", () -> house.meanWait());
        line("house.ring(2);", () -> house.ring(2));
    }

    /** The next line holds this call, and behind it the answer, up to a colon or the end. */
    private void line(String call, Check.Call asked) {
        String outcome = Check.outcome(asked).replace("java.lang.", "");
        String written = next < lines.size() ? lines.get(next) : "no line";
        next++;
        String[] parts = written.split(" *// ", 2);
        Check.due("README.md, the call", parts[0], call);
        Check.due("README.md, " + call, outcome, parts.length < 2 ? "nothing" : parts[1].split(":")[0]);
    }
}
