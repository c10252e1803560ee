import java.io.IOException;
import java.lang.reflect.Method;
import java.lang.reflect.Modifier;
import java.nio.charset.StandardCharsets;
import java.nio.file.Files;
import java.nio.file.Path;
import java.nio.file.Paths;
import java.util.ArrayList;
import java.util.LinkedHashMap;
import java.util.List;
import java.util.Map;
import java.util.regex.Matcher;
import java.util.regex.Pattern;
import java.util.stream.Collectors;
import java.util.stream.Stream;

/** What README.md says is true: its example, its calls, its orders and its tests. */
public final class ReadmeTest {
    private static final Path SOURCES = Paths.get("src", "test", "java");

    private static final Checks checks = new Checks();

    public static void main(String[] args) throws IOException {
        String page = read(Paths.get("README.md"));
        testExample(page);
        testCallsAreNamed(page);
        testOrdersAreTold(page);
        testTestsAreNamed(page);
        checks.finish();
    }

    private static String read(Path path) throws IOException {
        return new String(Files.readAllBytes(path), StandardCharsets.UTF_8);
    }

    /** The same lines as the page's example; testExample compares them. */
    private static Map<String, Object> example() {
        // the example begins
        ScrollChecks checks = new ScrollChecks();
        int scroll = checks.scroll(2, 3);
        checks.write(scroll, 0, 1, 8);
        int sums = checks.seal(scroll);
        int copy = checks.copy(scroll);
        checks.slip(copy, 0, 1, 5);
        int doubts = checks.doubts(copy);
        int length = checks.line(copy, 0);
        char last = checks.character(5);
        int cell = checks.mend(copy);
        checks.smudge(copy, 0, 1);
        int filled = checks.fill(copy);
        int left = checks.undo();
        for (char c : "f1;s0;c1".toCharArray()) {
            checks.append(c);
        }
        int orders = checks.read();
        // the example ends
        Map<String, Object> values = new LinkedHashMap<>();
        values.put("scroll", scroll);
        values.put("sums", sums);
        values.put("copy", copy);
        values.put("doubts", doubts);
        values.put("length", length);
        values.put("last", "'" + last + "'");
        values.put("cell", cell);
        values.put("filled", filled);
        values.put("left", left);
        values.put("orders", orders);
        return values;
    }

    private static void testExample(String page) throws IOException {
        String shown = between(page, "```java\n", "```");
        String source = read(SOURCES.resolve("ReadmeTest.java"));
        String made = between(source, "// the example begins\n", "// the example ends");
        checks.due("the example's lines", bare(shown), bare(made));
        Map<String, Object> values = example();
        Matcher told = Pattern.compile("(?m)^(?:int|char) (\\w+) = .*; +// ('.'|\\d+)").matcher(shown);
        int found = 0;
        while (told.find()) {
            found++;
            checks.due("the example's " + told.group(1), told.group(2), "" + values.get(told.group(1)));
        }
        checks.due("all values of the example are told", values.size(), found);
    }

    private static String between(String text, String head, String tail) {
        int start = text.indexOf(head) + head.length();
        return text.substring(start, text.indexOf(tail, start));
    }

    private static List<String> bare(String code) {
        List<String> lines = new ArrayList<>();
        for (String line : code.split("\n")) {
            String bare = line.replaceAll(" *//.*", "").trim();
            if (!bare.isEmpty()) {
                lines.add(bare);
            }
        }
        return lines;
    }

    private static void testCallsAreNamed(String page) {
        for (Method method : ScrollChecks.class.getDeclaredMethods()) {
            if (Modifier.isPublic(method.getModifiers())) {
                checks.due("names " + method.getName(), true, page.contains("`" + method.getName() + "`"));
            }
        }
    }

    /** Each order that the page shows does what the page says of it, so each of them makes another line. */
    private static void testOrdersAreTold(String page) {
        String[] orders = {"w0:1,2=7", "e0:1,2+7", "x0:1,2", "s0", "c0", "m0", "f0"};
        for (String order : orders) {
            checks.due("shows " + order, true, page.contains("`" + order + "`"));
        }
        ScrollChecks x = Made.sealedWith("000", "000");
        checks.due("writes", "000|0 007|0!", linesBehind(x, "w0:1,2=7"));
        checks.due("lets slip", "000|0 004|0!", linesBehind(x, "e0:1,2+7"));
        checks.due("mends", "000|0 000|0", linesBehind(x, "m0"));
        checks.due("smudges", "000|0 00?|0", linesBehind(x, "x0:1,2"));
        checks.due("fills in", "000|0 000|0", linesBehind(x, "f0"));
        checks.due("seals", "000|0 007|7", linesBehind(x, "w0:1,2=7;s0"));
        checks.due("copies", "000|0 007|7", linesBehind(x, "c0"));
        checks.due("copied", "000|0 007|7", Made.lines(x, 1));
    }

    private static String linesBehind(ScrollChecks x, String text) {
        Made.read(x, text);
        return Made.lines(x, 0);
    }

    private static void testTestsAreNamed(String page) throws IOException {
        List<String> names;
        try (Stream<Path> files = Files.list(SOURCES)) {
            names = files.map(file -> file.getFileName().toString()).filter(name -> name.endsWith("Test.java"))
                .map(name -> name.replace(".java", "")).collect(Collectors.toList());
        }
        for (String name : names) {
            String due = name.startsWith("BoundsOf") ? "BoundsOf...Test" : name;
            checks.due("names " + name, true, page.contains("`" + due + "`"));
        }
        Matcher named = Pattern.compile("`(\\w+Test)`").matcher(page);
        while (named.find()) {
            checks.due("there is " + named.group(1), true, names.contains(named.group(1)));
        }
    }
}
