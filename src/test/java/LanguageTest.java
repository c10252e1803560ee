import java.nio.charset.StandardCharsets;
import java.nio.file.Files;
import java.nio.file.Paths;
import java.util.Arrays;
import java.util.List;
import java.util.regex.Matcher;
import java.util.regex.Pattern;

/** The rules of ../shared/LANGUAGE.md that can be seen in the class's text, comments and written texts left out. */
public final class LanguageTest {
    private static final int LONGEST_METHOD = 60;
    private static final int MOST_CLASSES = 12;
    private static final int MOST_PARAMETERS = 7;

    private static final List<String> LIBRARY = Arrays.asList("Math.max", "Math.min", "System.arraycopy");
    private static final List<String> EXCEPTIONS = Arrays.asList("IllegalStateException", "IllegalArgumentException",
        "IndexOutOfBoundsException", "ArithmeticException", "UnsupportedOperationException", "NoSuchElementException");

    private static final Checks checks = new Checks();
    private static String code;

    public static void main(String[] args) throws Exception {
        byte[] bytes = Files.readAllBytes(Paths.get("src", "main", "java", "ScrollChecks.java"));
        code = bare(new String(bytes, StandardCharsets.UTF_8));
        none("rule 4, a sign above 127", "[^\\x00-\\x7f]");
        none("rule 1, a package", "\\bpackage\\b");
        none("rule 1, protected", "\\bprotected\\b");
        none("rule 4, an import", "\\bimport (?!java\\.util\\.NoSuchElementException;)");
        none("rule 2, a lambda or a method reference", "->|::");
        none("rule 5, a static initialiser", "\\bstatic \\{");
        none("rule 5, static state", "(?m)^ +private static (?!final )[^(]*[;=]");
        none("rule 6, a catch of anything", "\\b(?:try|catch|finally|assert|synchronized)\\b");
        none("rule 6, a reference thrown on", "\\bthrow (?!new )");
        none("rule 6, of your own objects", "\\b(?:equals|hashCode|toString|getClass|getMessage)\\b");
        none("rule 10, texts joined by +", "\"\" *\\+|\\+ *\"\"");
        none("rule 13, clock, chance, threads", "\\b(?:Random|Thread|File|nanoTime|currentTimeMillis|getenv)\\b");
        testNames("rule 4, the library", "\\b((?:Math|System|Arrays|Integer|Long|Character|String)\\.\\w+)", LIBRARY);
        testNames("rule 6, exceptions", "\\bthrow new (\\w+)\\(", EXCEPTIONS);
        testSizes();
        checks.finish();
    }

    private static String bare(String source) {
        String withoutTexts = source.replaceAll("\"(?:\\\\.|[^\"\\\\\n])*\"", "\"\"");
        return withoutTexts.replaceAll("(?s)/\\*.*?\\*/", "").replaceAll("//[^\n]*", "");
    }

    private static void none(String what, String pattern) {
        Matcher matcher = Pattern.compile(pattern).matcher(code);
        checks.due(what, "none", matcher.find() ? "'" + matcher.group().trim() + "'" : "none");
    }

    private static void testNames(String what, String pattern, List<String> allowed) {
        Matcher matcher = Pattern.compile(pattern).matcher(code);
        while (matcher.find()) {
            checks.due(what + ", " + matcher.group(1), true, allowed.contains(matcher.group(1)));
        }
    }

    private static void testSizes() {
        Matcher classes = Pattern.compile("\\b(?:class|enum|interface|record) \\w+").matcher(code);
        int found = 0;
        while (classes.find()) {
            found++;
        }
        checks.due("rule 11, some twelve classes", true, found <= MOST_CLASSES);
        String method = "(?ms)^( +)(?:\\w+(?:\\[\\])? )*\\w+\\(([^()]*)\\)[^;{}]*\\{\n.*?^\\1\\}$";
        Matcher methods = Pattern.compile(method).matcher(code);
        int seen = 0;
        while (methods.find()) {
            String head = methods.group().split("\\{\n", 2)[0].trim();
            seen++;
            checks.due("rule 11, short: " + head, true, methods.group().split("\n").length <= LONGEST_METHOD);
            checks.due("rule 11, parameters: " + head, true, methods.group(2).split(",").length <= MOST_PARAMETERS);
        }
        checks.due("rule 11, the methods are seen", true, seen > ScrollChecks.class.getDeclaredMethods().length);
    }
}
