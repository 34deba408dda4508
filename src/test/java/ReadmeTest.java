import java.io.IOException;
import java.lang.reflect.Method;
import java.lang.reflect.Modifier;
import java.nio.file.Files;
import java.nio.file.Path;
import java.util.List;

/** What README.md tells: its example holds, line by line, and its table has each call of the face. */
public final class ReadmeTest {
    private static final Check CHECK = new Check();

    private ReadmeTest() {
    }

    public static void main(String[] args) throws IOException {
        List<String> readme = Files.readAllLines(Path.of("README.md"));
        example();
        exampleIsTheSame(readme, Files.readString(Path.of("src/test/java/ReadmeTest.java")));
        tableHasEachCall(readme);
        CHECK.end("ReadmeTest");
    }

    private static void example() {
        RosterSolve x = new RosterSolve();
        x.days(2);
        int ann = x.person(1, 2000);
        int bob = x.person(3, 1500);
        x.need(0, 3, 1, 2);
        x.need(1, 1, 1, 0);
        x.rules(11, 5, 2);
        x.wish(ann, 1, 0, true, 10);
        int unmet = x.solve(20000);
        CHECK.due("unmet", unmet, 10);
        int exact = x.solved(0);
        CHECK.due("exact", exact, 1);
        int shift = x.shift(bob, 0);
        CHECK.due("shift", shift, 3);
        CHECK.due("Ann must be early", Check.shifts(x), "01 30");
        int edition = x.publish();
        CHECK.due("edition", edition, 2);
    }

    private static void exampleIsTheSame(List<String> readme, String tested) {
        int first = readme.indexOf("```java") + 1;
        int lines = readme.subList(first, readme.size()).indexOf("```");
        CHECK.due("the example has lines", lines > 0 ? 1 : 0, 1);
        for (String line : readme.subList(first, first + Math.max(0, lines))) {
            String call = line.replaceFirst("//.*", "").strip();
            CHECK.due("tested: " + call, tested.contains("        " + call + "\n") ? 1 : 0, 1);
        }
    }

    private static void tableHasEachCall(List<String> readme) {
        for (Method method : RosterSolve.class.getDeclaredMethods()) {
            if (Modifier.isPublic(method.getModifiers())) {
                long rows = readme.stream().filter(line -> line.startsWith("| `" + method.getName() + "(")).count();
                CHECK.due("rows for " + method.getName(), rows, 1);
            }
        }
    }
}
