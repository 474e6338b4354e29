import java.io.IOException;
import java.lang.reflect.Method;
import java.nio.file.Files;
import java.nio.file.Path;
import java.util.List;
import java.util.TreeSet;
import java.util.regex.Matcher;
import java.util.regex.Pattern;
import java.util.stream.Stream;

/** What README.md says holds: its example's answers, the calls and the tests that it names. */
public final class ReadmeTest extends Checks {
    private static final Pattern CALL =
            Pattern.compile("arm\\.(\\w+)\\(([^)]*)\\); +// (-?\\d+|true|false)(:? .*)?");
    private static final Pattern TEST_FILE = Pattern.compile("`(src/test/\\w+/\\w+\\.java)`");
    private static final Pattern PRICE =
            Pattern.compile("(\\d) [a-z ]+ \\((\\d+) to (\\d+), (?:at first )?(\\d+)\\)");

    public static void main(String[] args) throws Exception {
        String page = Files.readString(Path.of("README.md"));
        example(page);
        namesEveryCall(page);
        namesEveryTest(page);
        tellsThePrices(page);
        finish("README.md says what holds");
    }

    private static void example(String page) throws Exception {
        sentence("README.md, the example");
        int begins = page.indexOf("```java\n");
        int ends = page.indexOf("```\n", begins + 1);
        due("there is an example", begins >= 0 && ends > begins, true);
        List<String> lines = page.substring(begins, ends).lines().skip(1).toList();
        due(lines.get(0), lines.get(0).equals("PenArm arm = new PenArm();"), true);
        PenArm arm = new PenArm();
        for (String line : lines.subList(1, lines.size())) {
            Matcher call = CALL.matcher(line);
            boolean read = call.matches();
            due("an answer stands behind " + line, read, true);
            if (read) {
                String got = answer(arm, call.group(1), call.group(2));
                due(line + " (" + got + ")", got.equals(call.group(3)), true);
            }
        }
    }

    private static String answer(PenArm arm, String name, String inputs) throws Exception {
        String[] texts = inputs.isEmpty() ? new String[0] : inputs.split(", ");
        Object[] values = new Object[texts.length];
        for (int i = 0; i < texts.length; i++) {
            boolean isNumber = !texts[i].equals("true") && !texts[i].equals("false");
            values[i] = isNumber ? (Object) Integer.valueOf(texts[i]) : Boolean.valueOf(texts[i]);
        }
        for (Method method : PenArm.class.getMethods()) {
            if (method.getName().equals(name)) {
                return String.valueOf(method.invoke(arm, values));
            }
        }
        return "no such call";
    }

    private static void namesEveryCall(String page) {
        sentence("README.md, the calls in short");
        String inShort = page.substring(page.indexOf("The calls, in short"));
        for (Method method : PenArm.class.getDeclaredMethods()) {
            if ((method.getModifiers() & java.lang.reflect.Modifier.PUBLIC) != 0) {
                String form = "`" + method.getName() + "\\((\\w+(, \\w+){"
                        + (Math.max(method.getParameterCount(), 1) - 1) + "})"
                        + (method.getParameterCount() == 0 ? "{0}" : "") + "\\)`";
                due(form, Pattern.compile(form).matcher(inShort).find(), true);
            }
        }
    }

    private static void namesEveryTest(String page) throws IOException {
        sentence("README.md, the tests");
        TreeSet<String> named = new TreeSet<>();
        Matcher file = TEST_FILE.matcher(page);
        while (file.find()) {
            named.add(file.group(1));
        }
        TreeSet<String> here = new TreeSet<>();
        try (Stream<Path> paths = Files.walk(Path.of("src/test"))) {
            paths.filter(Files::isRegularFile).forEach(path -> here.add(path.toString()));
        }
        due("named " + named + ", here " + here, named.equals(here), true);
    }

    private static void tellsThePrices(String page) {
        sentence("README.md, the prices");
        int told = 0;
        Matcher price = PRICE.matcher(page.replaceAll("\\s+", " "));
        while (price.find()) {
            int which = Integer.parseInt(price.group(1));
            due("in order", which, told);
            dueBounds(which, Integer.parseInt(price.group(2)), Integer.parseInt(price.group(3)));
            due("at first " + which, firstPrice(which), Integer.parseInt(price.group(4)));
            told++;
        }
        due("prices told", told, 5);
        due("no other price", new PenArm().price(told, 1), false);
    }

    private static void dueBounds(int which, int lowest, int highest) {
        PenArm arm = new PenArm();
        due("below " + lowest, arm.price(which, lowest - 1), false);
        due("lowest", arm.price(which, lowest), true);
        due("highest", arm.price(which, highest), true);
        due("above " + highest, arm.price(which, highest + 1), false);
    }

    /** By drawings in which this price alone makes the difference. */
    private static int firstPrice(int which) {
        PenArm near = drawing(0, 0, 10, 0);
        switch (which) {
            case 0:
                return near.ticks(0, 0) / 10;
            case 1:
                return (drawing(10, 0, 20, 0).plan() - near.plan()) / 10;
            case 2:
                return near.plan() - planWithout(2) >> 1;
            case 3:
                return near.plan() - planWithout(3);
            default:
                return drawing(0, 0, 10, 0, 10, 10).ticks(0, 0)
                        - drawing(0, 0, 10, 0, 20, 0).ticks(0, 0);
        }
    }

    private static int planWithout(int which) {
        PenArm arm = drawing(0, 0, 10, 0);
        arm.price(which, 0);
        return arm.plan();
    }
}
