import java.nio.file.Files;
import java.nio.file.Path;
import java.util.HashMap;
import java.util.List;
import java.util.Map;
import java.util.Set;
import java.util.TreeSet;
import java.util.regex.Matcher;
import java.util.regex.Pattern;

/** The source keeps to those rules of LANGUAGE.md that can be read off its text. */
public final class LanguageTest extends Checks {
    private static final List<String> RULED_OUT = List.of(
            "->", "::", "finally", "synchronized", "assert ", "catch", "try ", "protected ",
            "instanceof", "double", "float", "System.", "Exact(", "hashCode", "toString(",
            "equals(", "static {", "volatile", "Thread", "package ", "[][]", "String", "\" +",
            "+ \"", "while (true)", "for (;;)");
    private static final Set<String> LIBRARY =
            Set.of("Math.max", "Math.min", "Math.abs", "Integer.bitCount");
    private static final Set<String> MADE = Set.of("int", "Stroke", "Sheet", "Hand", "Plan", "Leg",
            "Run", "NoSuchElementException");
    private static final Pattern METHOD = Pattern.compile(
            "\n(    |        )(?:(?:public|private|static|final) )*(?:[\\w\\[\\]]+ )?(\\w+)"
                    + "\\(([^)]*)\\)(?: throws \\w+)? \\{\n(.*?)\n\\1\\}", Pattern.DOTALL);
    private static final int MOST_LINES = 60;
    private static final int MOST_INPUTS = 7;
    private static final int DEEPEST = 8;

    public static void main(String[] args) throws Exception {
        String text = Files.readString(Path.of("src/main/java/PenArm.java"));
        String code = text.replaceAll("(?s)/\\*.*?\\*/", "").replaceAll("//[^\n]*", "");
        words(text, code);
        library(code);
        exceptions(code);
        methods(code);
        depth(code);
        finish("the source keeps to the rules");
    }

    private static void words(String text, String code) {
        sentence("rules 2 to 10");
        for (String word : RULED_OUT) {
            due("ruled out: " + word, code.contains(word), false);
        }
        due("a sign beyond 126", text.chars().anyMatch(sign -> sign > 126), false);
        due("imports", find(code, "(?m)^(import) .*$").size(), 1);
    }

    private static void library(String code) {
        sentence("rule 4");
        List<String> used = find(code, "\\b((?:[A-Z][a-z]+)\\.[a-z]\\w*)\\(");
        due("library: " + used, LIBRARY.containsAll(used), true);
        List<String> made = find(code, "\\bnew (\\w+)");
        due("made: " + made, MADE.containsAll(made), true);
    }

    private static void exceptions(String code) {
        sentence("rule 6");
        due("throws", find(code, "(throw new NoSuchElementException\\(\"[a-z ]+\"\\);)").size(),
                find(code, "\\b(throw) ").size());
    }

    private static void methods(String code) {
        sentence("rule 11");
        Matcher method = METHOD.matcher(code);
        int seen = 0;
        while (method.find()) {
            seen++;
            String name = method.group(2);
            due(name + " is short", method.group(4).lines().count() <= MOST_LINES, true);
            due(name + " takes few", method.group(3).split(",").length <= MOST_INPUTS, true);
        }
        due("methods were found", seen > 60, true);
    }

    /** Methods are told apart by name alone, so the depth found is the true one or more. */
    private static void depth(String code) {
        sentence("rule 11");
        Map<String, Set<String>> calls = new HashMap<>();
        Matcher method = METHOD.matcher(code);
        while (method.find()) {
            calls.computeIfAbsent(method.group(2), name -> new TreeSet<>())
                    .addAll(find(method.group(4), "\\b([a-z]\\w*)\\("));
        }
        for (String name : calls.keySet()) {
            int levels = levelsOf(name, calls, 0);
            due(name + " goes " + levels + " deep", levels <= DEEPEST, true);
        }
    }

    private static int levelsOf(String name, Map<String, Set<String>> calls, int above) {
        if (above > DEEPEST) {
            return 1;
        }
        int deepest = 0;
        for (String called : calls.getOrDefault(name, Set.of())) {
            boolean isCall = calls.containsKey(called) || LIBRARY.contains("Math." + called)
                    || LIBRARY.contains("Integer." + called);
            if (isCall) {
                deepest = Math.max(deepest, levelsOf(called, calls, above + 1));
            }
        }
        return 1 + deepest;
    }

    private static List<String> find(String text, String pattern) {
        return Pattern.compile(pattern).matcher(text).results().map(hit -> hit.group(1)).toList();
    }
}
