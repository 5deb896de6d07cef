import java.io.File;
import java.nio.charset.StandardCharsets;
import java.nio.file.Files;
import java.nio.file.Path;
import java.util.regex.Matcher;
import java.util.regex.Pattern;

/** What README.md says of the use of the class. */
final class ReadmeTests {
    private final String readme;

    private ReadmeTests(String readme) {
        this.readme = readme;
    }

    static void addTo(AllTests all, Path file) throws Exception {
        ReadmeTests tests = new ReadmeTests(Files.readString(file, StandardCharsets.UTF_8));
        all.add("README: the example prints what stands below it", tests::example);
        all.add("README: each order is like its call", tests::orders);
    }

    private String block(String kind) {
        Matcher found = Pattern.compile("(?s)```" + kind + "\\n(.*?)```").matcher(readme);
        Check.isTrue("README.md has a block of " + kind, found.find());
        return found.group(1);
    }

    private void example() throws Exception {
        Path made = Files.createTempDirectory("example");
        Path source = Files.writeString(made.resolve("Example.java"), block("java"));
        String classes = System.getProperty("java.class.path");
        Check.is("what javac says of the example", "",
            answered("javac", "-cp", classes, "-d", made.toString(), source.toString()));
        Check.is("what the example prints", block("text"),
            answered("java", "-cp", classes + File.pathSeparator + made, "Example"));
    }

    /** What a command prints; its errors go where ours go. */
    private static String answered(String... command) throws Exception {
        Process process = new ProcessBuilder(command).redirectError(ProcessBuilder.Redirect.INHERIT).start();
        String printed = new String(process.getInputStream().readAllBytes(), StandardCharsets.UTF_8);
        Check.is("exit code of " + command[0] + ", which printed " + printed, 0, process.waitFor());
        return printed;
    }

    /** The rows of the table of orders: an order as in the text, and the call that it is like. */
    private void orders() throws Exception {
        Matcher row = Pattern.compile("(?m)\\| `([bpgtsxr][^`]*)` \\| `(\\w+)\\(([^`]*)\\)` \\|$").matcher(readme);
        int found = 0;
        while (row.find()) {
            found++;
            VowelTorus byOrder = new VowelTorus();
            Check.is("orders in " + row.group(1), 1, Make.run(byOrder, row.group(1)));
            VowelTorus byCall = new VowelTorus();
            call(byCall, row.group(2), row.group(3).split(", "));
            Check.is("the state behind " + row.group(1), Look.state(byCall), Look.state(byOrder));
        }
        Check.is("the orders of the table", 7, found);
    }

    private static void call(VowelTorus x, String name, String[] given) {
        int one = Integer.parseInt(given[0]);
        String other = given[given.length - 1];
        switch (name) {
            case "board" -> x.board(one, Integer.parseInt(other));
            case "put" -> x.put(one, other.charAt(1));
            case "goal" -> x.goal(one, other.charAt(1));
            case "turn" -> x.turn(one);
            case "swap" -> x.swap(one, Integer.parseInt(other));
            case "bar" -> x.bar(one);
            case "scramble" -> x.scramble(one, Integer.parseInt(other));
            default -> throw new IllegalArgumentException("README.md names " + name);
        }
    }
}
