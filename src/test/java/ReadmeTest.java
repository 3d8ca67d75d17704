import java.io.File;
import java.io.IOException;
import java.lang.reflect.Method;
import java.lang.reflect.Modifier;
import java.nio.file.Files;
import java.nio.file.Path;
import java.util.ArrayList;
import java.util.Iterator;
import java.util.List;

/** README.md: its examples answer what stands behind them, and its tables leave no call and no test out. */
public final class ReadmeTest {
    private static final Check CHECK = new Check("ReadmeTest");
    private static final String ABC = "0x6162630000000000L";

    private final List<String> lines;
    private final Iterator<String> exampleLines;

    private ReadmeTest(List<String> lines) {
        this.lines = lines;
        exampleLines = linesOfExamples(lines).iterator();
    }

    private static List<String> linesOfExamples(List<String> lines) {
        List<String> found = new ArrayList<>();
        boolean inside = false;
        for (String line : lines) {
            if (line.startsWith("```")) {
                inside = line.equals("```java");
            } else if (inside) {
                found.add(line);
            }
        }
        return found;
    }

    public static void main(String[] args) throws IOException {
        ReadmeTest test = new ReadmeTest(Files.readAllLines(Path.of("README.md")));
        CHECK.says("How to use it", test::examples);
        CHECK.says("All calls", test::everyCall);
        CHECK.says("How to run the tests", test::everyTest);
        CHECK.end();
    }

    private void examples() {
        BlobStore store = new BlobStore();
        fromPartToVersion(store);
        whenThePowerGoes(store);
        CHECK.due("a line of the examples that the test does not call", exampleLines.hasNext(), false);
    }

    private void fromPartToVersion(BlobStore store) {
        line("BlobStore store = new BlobStore();", "");
        int session = store.begin(0, 3);
        line("int session = store.begin(0, 3);", session);
        line("store.part(session, 1, 3, " + ABC + ", 0, 0);", store.part(session, 1, 3, 0x6162630000000000L, 0, 0));
        line("store.part(session, 2, 11, 0x6465666768696a6bL, " + ABC + ", 0);",
                store.part(session, 2, 11, 0x6465666768696a6bL, 0x6162630000000000L, 0));
        int version = store.complete(session);
        line("int version = store.complete(session);", version);
        line("store.size(version);", store.size(version));
        line("store.byteAt(version, 13);", store.byteAt(version, 13));
        line("store.latest(0, 3);", store.latest(0, 3));
        line("store.slotOf(3, " + ABC + ");", store.slotOf(3, 0x6162630000000000L));
        line("store.needed(0);", store.needed(0));
        line("store.delete(version);", store.delete(version));
        line("store.collect();", store.collect());
    }

    private void whenThePowerGoes(BlobStore store) {
        line("store.begin(1, 0);", store.begin(1, 0));
        store.cutAfter(1);
        line("store.cutAfter(1);", "behind one more write");
        throwing("store.part(0, 1, 16, 5, 6, 0);", Check.POWER, () -> store.part(0, 1, 16, 5, 6, 0));
        line("store.state(0);", store.state(0));
        throwing("store.begin(1, 1);", Check.STATE, () -> store.begin(1, 1));
        line("store.recover();", store.recover());
        line("store.part(0, 1, 16, 5, 6, 0);", store.part(0, 1, 16, 5, 6, 0));
    }

    private void throwing(String call, Class<?> want, Runnable run) {
        CHECK.dueThrow(call, want, run);
        line(call, "throws " + want.getSimpleName());
    }

    private void line(String call, long answer) {
        line(call, answer + ":");
    }

    private void line(String call, boolean answer) {
        line(call, answer + ":");
    }

    /** The next line of an example is this call, and behind it stands what it answers. */
    private void line(String call, String comment) {
        String found = exampleLines.hasNext() ? exampleLines.next() : "";
        if (!found.startsWith(call)) {
            CHECK.tell("README.md has '" + found + "' where the test calls " + call);
        } else if (!found.substring(call.length()).replaceFirst("^ *(// )?", "").startsWith(comment)) {
            CHECK.tell("README.md has '" + found + "', due behind it is " + comment);
        }
    }

    private boolean hasRow(String name) {
        return lines.stream().anyMatch(line -> line.startsWith("| `" + name));
    }

    private void everyCall() {
        for (Method method : BlobStore.class.getDeclaredMethods()) {
            if (Modifier.isPublic(method.getModifiers()) && !hasRow(method.getName() + "(")) {
                CHECK.tell("README.md has no row for " + method.getName());
            }
        }
    }

    private void everyTest() {
        for (String file : new File("src/test/java").list()) {
            String name = file.replace(".java", "");
            if (name.endsWith("Test") && !hasRow(name + "`")) {
                CHECK.tell("README.md has no row for " + name);
            }
        }
    }
}
