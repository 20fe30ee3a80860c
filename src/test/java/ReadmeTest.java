import java.io.File;
import java.io.IOException;
import java.lang.reflect.Method;
import java.lang.reflect.Modifier;
import java.nio.file.Files;
import java.nio.file.Path;
import java.util.ArrayList;
import java.util.List;

/**
 * The calls that README.md shows: each is made here, its answer is the one that is due, and
 * README.md shows just these calls with just these answers. Runs in the project's directory.
 */
public final class ReadmeTest {
    private static final Checks CHECKS = new Checks();
    private static final String MAKES_OBJECT = "LateRoutes post = new LateRoutes();";
    private static final String NOT_SHOWN = "";

    /** The lines of README.md's Java code, those not compared yet from 'next' on. */
    private final List<String> shown;
    private int next = 0;

    private ReadmeTest(List<String> shown) {
        this.shown = shown;
    }

    public static void main(String[] args) throws IOException {
        List<String> readme = Files.readAllLines(Path.of("README.md"));
        ReadmeTest test = new ReadmeTest(javaLines(readme));
        LateRoutes post = test.makeObject();
        test.makeCalls(post);
        test.makeRefusedCalls(post);
        CHECKS.due("lines of code that are not tested", test.shown.size() - test.next, 0);
        namesAllCalls(readme);
        namesAllTests(readme);
        CHECKS.end();
    }

    private static List<String> javaLines(List<String> readme) {
        List<String> found = new ArrayList<>();
        boolean isJava = false;
        for (String line : readme) {
            if (line.startsWith("```")) {
                isJava = line.equals("```java");
            } else if (isJava) {
                found.add(line);
            }
        }
        return found;
    }

    private LateRoutes makeObject() {
        CHECKS.isTrue("README.md shows " + MAKES_OBJECT, takeShown().equals(MAKES_OBJECT));
        return new LateRoutes();
    }

    private void makeCalls(LateRoutes post) {
        int first = post.line(0, 1, 0, 60);
        same("int first = post.line(0, 1, 0, 60);", first, 1);
        int second = post.line(1, 2, 70, 100);
        same("int second = post.line(1, 2, 70, 100);", second, 2);
        int load = post.load(first, 2, 100, 10);
        same("int load = post.load(first, 2, 100, 10);", load, 1);
        same("post.option(load, 0, second, 0);", post.option(load, 0, second, 0), 0);
        same("post.option(load, 1, second, 0);", post.option(load, 1, second, 0), 1);
        same("post.option(load, 2, 0, 300);", post.option(load, 2, 0, 300), 2);
        same("post.chosen(load);", post.chosen(load), 0);
        same("post.arrival(load);", post.arrival(load), 100);
        same("post.waits(second, 15);", post.waits(second, 15), 0);
        same("post.late(first, 1);", post.late(first, 1), 1);
        same("post.none(0);", post.none(0), 1);
        same("post.arrival(load);", post.arrival(load), 1501);
        same("post.solve();", post.solve(), 10);
        same("post.chosen(load);", post.chosen(load), 1);
        same("post.departs(second);", post.departs(second), 71);
        same("post.arrival(load);", post.arrival(load), 101);
        same("post.none(0);", post.none(0), -1);
        same("post.acts();", post.acts(), 1);
        same("post.tell(first, 0);", post.tell(first, 0), 1);
        same("post.chosen(load);", post.chosen(load), 0);
    }

    /** Goes on with the object of makeCalls(), where lines 1 and 2 and load 1 are. */
    private void makeRefusedCalls(LateRoutes post) {
        int first = 1;
        int second = 2;
        int load = 1;
        same("post.departs(3);", post.departs(3), LateRoutes.UNKNOWN);
        same("post.waits(second, 601);", post.waits(second, 601), LateRoutes.OUTSIDE);
        same("post.option(load, 0, first, 0);", post.option(load, 0, first, 0), LateRoutes.STATE);
        same("post.option(load, 2, 0, 200);", post.option(load, 2, 0, 200), 3);
        same("post.option(load, 2, 0, 100);", post.option(load, 2, 0, 100), LateRoutes.ROOM);
    }

    private void same(String call, long got, long want) {
        CHECKS.due(call, got, want);
        String line = takeShown();
        int comment = line.indexOf("//");
        String code = comment < 0 ? line : line.substring(0, comment);
        String answer = comment < 0 ? NOT_SHOWN : line.substring(comment + 2).split(":")[0].trim();
        CHECKS.isTrue("README.md shows " + call + " and not " + line, code.trim().equals(call));
        CHECKS.isTrue("README.md shows " + want + " as the answer in " + line,
            answer.equals(Long.toString(want)));
    }

    private String takeShown() {
        String line = next < shown.size() ? shown.get(next) : NOT_SHOWN;
        next++;
        return line;
    }

    private static void namesAllCalls(List<String> readme) {
        for (Method method : LateRoutes.class.getDeclaredMethods()) {
            if (Modifier.isPublic(method.getModifiers())) {
                String begin = "| `" + method.getReturnType() + " " + method.getName() + "(";
                CHECKS.isTrue("README.md has a row " + begin, hasLine(readme, begin));
            }
        }
    }

    private static void namesAllTests(List<String> readme) {
        String[] files = new File("src/test/java").list();
        CHECKS.isTrue("src/test/java is here", files != null);
        for (String file : files == null ? new String[0] : files) {
            if (file.endsWith("Test.java")) {
                String begin = "- `" + file.replace(".java", "") + "`:";
                CHECKS.isTrue("README.md has a line " + begin, hasLine(readme, begin));
            }
        }
    }

    private static boolean hasLine(List<String> readme, String begin) {
        return readme.stream().anyMatch(line -> line.startsWith(begin));
    }
}
