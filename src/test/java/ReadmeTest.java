import java.io.IOException;
import java.lang.reflect.Method;
import java.lang.reflect.Modifier;
import java.nio.file.Files;
import java.nio.file.Path;
import java.util.Arrays;
import java.util.List;
import java.util.Map;
import java.util.Set;
import java.util.TreeSet;
import java.util.regex.Matcher;
import java.util.regex.Pattern;
import java.util.stream.Collectors;
import java.util.stream.Stream;

/** README.md is right: its examples answer what they tell, and it names every call and every test. */
public final class ReadmeTest {
    private static final Checks checks = new Checks("ReadmeTest");
    private static final Map<String, Integer> NAMED = Map.of("BAD", SweptFloors.BAD, "STATE", SweptFloors.STATE,
        "FULL", SweptFloors.FULL, "NONE", SweptFloors.NONE);
    private static final Pattern TOLD = Pattern.compile("for \\(char letter : \"([^\"]*)\"\\.toCharArray\\(\\)\\) \\{");
    private static final Pattern CALL = Pattern.compile("x\\.(\\w+)\\(([-0-9, ]*)\\);\\s+// (-?\\d+|[A-Z]+)(:.*)?");

    public static void main(String[] args) throws Exception {
        String page = Files.readString(Path.of("README.md"));
        examples(page);
        callsAreNamed(page);
        answersAreNumbered(page);
        testsAreNamed(page);
        checks.end();
    }

    private static void examples(String page) throws ReflectiveOperationException {
        Matcher blocks = Pattern.compile("(?s)```java\n(.*?)```").matcher(page);
        int seen = 0;
        while (blocks.find()) {
            example(List.of(blocks.group(1).split("\n")));
            seen++;
        }
        checks.holds("examples were seen", seen >= 5);
    }

    private static void example(List<String> lines) throws ReflectiveOperationException {
        checks.holds("makes an object: " + lines.get(0), lines.get(0).equals("SweptFloors x = new SweptFloors();"));
        SweptFloors x = new SweptFloors();
        for (int i = 1; i < lines.size(); i++) {
            String line = lines.get(i);
            Matcher told = TOLD.matcher(line);
            Matcher call = CALL.matcher(line);
            if (told.matches()) {
                Checks.tell(x, told.group(1));
            } else if (call.matches()) {
                checks.due(line, answerOf(x, call.group(1), call.group(2)), numberOf(call.group(3)));
            } else {
                checks.holds("is read: " + line, line.equals("    x.type(letter);") || line.equals("}"));
            }
        }
    }

    private static int answerOf(SweptFloors x, String name, String given) throws ReflectiveOperationException {
        Object[] numbers = given.isEmpty() ? new Object[0]
            : Stream.of(given.split(", ")).map(Integer::valueOf).toArray();
        Class<?>[] types = new Class<?>[numbers.length];
        Arrays.fill(types, int.class);
        return (Integer) SweptFloors.class.getMethod(name, types).invoke(x, numbers);
    }

    private static int numberOf(String told) {
        return NAMED.containsKey(told) ? NAMED.get(told) : Integer.parseInt(told);
    }

    private static void callsAreNamed(String page) {
        for (Method m : SweptFloors.class.getDeclaredMethods()) {
            if (Modifier.isPublic(m.getModifiers())) {
                checks.holds(m.getName() + " stands in the page's text",
                    Pattern.compile("`" + m.getName() + "[`(]").matcher(page).find());
                checks.holds(m.getName() + " stands in an example", page.contains("x." + m.getName() + "("));
            }
        }
    }

    private static void answersAreNumbered(String page) {
        for (Map.Entry<String, Integer> answer : NAMED.entrySet()) {
            checks.holds(answer.getKey() + " is told with its number",
                page.contains("| `" + answer.getKey() + "` | " + answer.getValue() + " |"));
        }
    }

    private static void testsAreNamed(String page) throws IOException {
        Set<String> named = new TreeSet<>();
        Matcher rows = Pattern.compile("(?m)^\\| `(\\w+Test)` \\|").matcher(page);
        while (rows.find()) {
            named.add(rows.group(1));
        }
        Set<String> there;
        try (Stream<Path> files = Files.list(Path.of("src/test/java"))) {
            there = files.map(file -> file.getFileName().toString()).filter(name -> name.endsWith("Test.java"))
                .map(name -> name.replace(".java", "")).collect(Collectors.toCollection(TreeSet::new));
        }
        checks.holds("the page names " + there + ", not " + named, named.equals(there));
    }
}
