import java.io.IOException;
import java.lang.reflect.Method;
import java.lang.reflect.Modifier;
import java.nio.file.Files;
import java.nio.file.Path;
import java.util.ArrayList;
import java.util.List;
import java.util.Map;
import java.util.stream.Stream;

/** README.md tells how to use the class: its example answers what it says, and no call or test is left out. */
public final class ReadmeTest {
    private static final Map<Integer, String> REASONS = Map.of(NameGuard.NONE, "NONE", NameGuard.RANGE, "RANGE",
        NameGuard.FULL, "FULL");
    private static final List<String> example = new ArrayList<>();
    private static int at = 0;

    private ReadmeTest() {
    }

    public static void main(String[] args) throws IOException {
        String page = Files.readString(Path.of("README.md"));
        example.addAll(page.substring(page.indexOf("```java\n") + 8, page.indexOf("\n```\n")).lines().toList());
        playExample();
        Check.due("lines of the example that no test plays", example.size() - at, 0);
        everyCall(page);
        everyTest(page);
        Check.due("how its tests are run", page.contains("\n    bash .ci/run\n") ? 1 : 0, 1);
        Check.close("ReadmeTest");
    }

    /** The next line of the example is this call, and what stands behind it begins with the answer. */
    private static void line(String call, int got) {
        String line = at < example.size() ? example.get(at) : "";
        at++;
        String[] parts = line.split("\\s*// ", 2);
        Check.dueText("line " + at + " of the example", parts[0], "guard." + call + ";");
        String says = parts.length == 2 ? parts[1].replaceAll(":.*", "") : "";
        Check.dueText("answer of " + call, says, REASONS.getOrDefault(got, String.valueOf(got)));
    }

    private static void playExample() {
        Check.dueText("first line", example.get(0), "NameGuard guard = new NameGuard();");
        at = 1;
        NameGuard x = new NameGuard();
        line("confuse(256 * 'r' + 'n', 'm', 2)", x.confuse(256 * 'r' + 'n', 'm', 2));
        line("feed(0x6D6F6465, 0x726E0000, 0, 0, 0)", x.feed(0x6D6F6465, 0x726E0000, 0, 0, 0));
        line("end(6)", x.end(6));
        line("name()", x.name());
        Check.dueText("THE NAME", Check.seenName(x), "modern");
        line("enter(0, 1)", x.enter(0, 1));
        line("feed(0x6D6F6465, 0x6D000000, 0, 0, 0)", x.feed(0x6D6F6465, 0x6D000000, 0, 0, 0));
        line("end(5)", x.end(5));
        line("name()", x.name());
        Check.dueText("THE NAME", Check.seenName(x), "modem");
        line("ask(0, 2)", x.ask(0, 2));
        line("enter(0, 2)", x.enter(0, 2));
        line("ask(0, 1)", x.ask(0, 1));
        line("far(0)", x.far(0));
        line("ways(0)", x.ways(0));
        line("way(4, 0)", x.way(4, 0));
        line("way(4, 1)", x.way(4, 1));
        line("way(4, 2)", x.way(4, 2));
        line("near(0, 8)", x.near(0, 8));
        line("nearest(0, 0)", x.nearest(0, 0));
        line("rule(0, 1, 3, false)", x.rule(0, 1, 3, false));
        line("enter(0, 2)", x.enter(0, 2));
        line("likes(0)", x.likes(0));
        line("confuse('m', 256 * 'r' + 'n', 0)", x.confuse('m', 256 * 'r' + 'n', 0));
        line("likes(0)", x.likes(0));
        line("like(0, 1)", x.like(0, 1));
    }

    private static void everyCall(String page) {
        for (Method call : NameGuard.class.getDeclaredMethods()) {
            if (Modifier.isPublic(call.getModifiers())) {
                Check.due("a row of " + call.getName(), page.contains("\n| `" + call.getName() + "(") ? 1 : 0, 1);
            }
        }
    }

    private static void everyTest(String page) throws IOException {
        try (Stream<Path> files = Files.list(Path.of("src/test/java"))) {
            for (Path file : files.toList()) {
                String name = file.getFileName().toString().replace(".java", "");
                Check.due(name + " stands on the page", page.contains("`" + name + "`") ? 1 : 0, 1);
            }
        }
    }
}
