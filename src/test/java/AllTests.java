import java.nio.file.Path;
import java.util.ArrayList;
import java.util.List;

/** Runs the project's tests, and counts them. */
final class AllTests {
    /** A test; it fails by throwing. */
    interface Test {
        void run() throws Exception;
    }

    private final List<String> names = new ArrayList<>();
    private final List<Test> tests = new ArrayList<>();

    private AllTests() {
    }

    void add(String name, Test test) {
        if (names.contains(name)) {
            throw new IllegalArgumentException("two tests bear the name " + name);
        }
        names.add(name);
        tests.add(test);
    }

    private int failures() {
        int failed = 0;
        for (int i = 0; i < tests.size(); i++) {
            try {
                tests.get(i).run();
            } catch (Exception | AssertionError e) {
                failed++;
                System.out.println("FAIL " + names.get(i) + ": " + e);
            }
        }
        return failed;
    }

    /** Takes the file of the class and README.md, whose words are looked at too. */
    public static void main(String[] args) throws Exception {
        AllTests all = new AllTests();
        BoardTests.addTo(all);
        WayTests.addTo(all);
        SongTests.addTo(all);
        TextTests.addTo(all);
        AccountTests.addTo(all);
        BoardEdges.addTo(all);
        TurnEdges.addTo(all);
        WayEdges.addTo(all);
        SongEdges.addTo(all);
        TextEdges.addTo(all);
        RunEdges.addTo(all);
        AccountEdges.addTo(all);
        UndoEdges.addTo(all);
        ModelTests.addTo(all);
        RuleTests.addTo(all, Path.of(args[0]));
        ReadmeTests.addTo(all, Path.of(args[1]));
        int failed = all.failures();
        System.out.println(all.tests.size() - failed + " passed, " + failed + " failed");
        if (failed > 0) {
            System.exit(1);
        }
    }
}
