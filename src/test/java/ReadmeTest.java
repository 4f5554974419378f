import java.io.IOException;
import java.nio.file.Files;
import java.nio.file.Path;
import java.util.ArrayList;
import java.util.List;
import java.util.function.Supplier;

/** The example of README.md: each of its calls, in its order, answers what is written behind it. */
public final class ReadmeTest {
    private final List<String> lines;
    private int next = 0;

    private ReadmeTest(List<String> lines) {
        this.lines = lines;
    }

    public static void main(String[] args) throws IOException {
        ReadmeTest test = new ReadmeTest(example(Files.readAllLines(Path.of("README.md"))));
        test.wholeExample();
        Check.due("lines of the example that were not looked at", () -> test.lines.size() - test.next, 0);
        Check.end();
    }

    /** The lines of the first block of Java. */
    private static List<String> example(List<String> readme) {
        List<String> block = new ArrayList<>();
        int first = readme.indexOf("```java") + 1;
        for (int k = first; first > 0 && k < readme.size() && !readme.get(k).equals("```"); k++) {
            block.add(readme.get(k));
        }
        return block;
    }

    private void wholeExample() {
        HiveYard yard = new HiveYard();
        Check.text("the first line", nextLine(), "HiveYard yard = new HiveYard();");
        call("yard.row(0, 4, 3);", () -> yard.row(0, 4, 3));
        call("yard.row(1, 5, 3);", () -> yard.row(1, 5, 3));
        call("yard.lay(0, 0, 3);", () -> yard.lay(0, 0, 3));
        call("yard.lay(0, 2, 2);", () -> yard.lay(0, 2, 2));
        call("yard.lay(1, 0, 2);", () -> yard.lay(1, 0, 2));
        call("yard.move(0, 0, 1, 0, 3);", () -> yard.move(0, 0, 1, 0, 3));
        call("yard.moved();", () -> yard.moved());
        call("yard.at(1, 0);", () -> yard.at(1, 0));
        call("yard.feed(0, 7);", () -> yard.feed(0, 7));
        call("yard.all(1);", () -> yard.all(1));
        call("yard.share(2, 1);", () -> yard.share(2, 1));
        call("yard.same(1, 2);", () -> yard.same(1, 2));
        call("yard.lift(2, 0);", () -> yard.lift(2, 0));
        call("yard.at(1, 0);", () -> yard.at(1, 0));
        call("yard.pour(0, 3);", () -> yard.pour(0, 3));
        call("yard.count(2);", () -> yard.count(2));
        call("yard.put(0, 0, 1);", () -> yard.put(0, 0, 1));
    }

    private String nextLine() {
        return next < lines.size() ? lines.get(next++) : "no line";
    }

    private void call(String written, Supplier<Object> made) {
        String[] parts = nextLine().split(" +// ", 2);
        Check.text("the call of line " + next, parts[0], written);
        String behind = parts.length == 2 ? parts[1].split(":", 2)[0] : "nothing";
        Check.text(written, outcome(made), behind);
    }

    private static String outcome(Supplier<Object> made) {
        try {
            return String.valueOf(made.get());
        } catch (RuntimeException e) {
            return "throws " + e.getClass().getSimpleName();
        }
    }
}
