import java.io.IOException;
import java.lang.reflect.Method;
import java.lang.reflect.Modifier;
import java.nio.file.Files;
import java.nio.file.Path;
import java.util.ArrayList;
import java.util.Arrays;
import java.util.List;
import java.util.Set;
import java.util.TreeSet;
import java.util.regex.Matcher;
import java.util.regex.Pattern;
import java.util.stream.Collectors;
import java.util.stream.Stream;

/** README.md: its examples answer as they say, its tables name each method and act, and it names each test. */
public final class ReadmeTest {
    private static final Checks CHECKS = new Checks();

    private static final String NEW_HALL = "BaggageHall hall = new BaggageHall();";
    private static final Pattern EXAMPLE = Pattern.compile("(?s)```java\n(.*?)```");
    private static final Pattern CALL = Pattern.compile("hall\\.(\\w+)\\(([-\\d, ]*)\\); +// (-?\\d+): .+");
    private static final Pattern METHOD_ROW = Pattern.compile("(?m)^\\| `(\\w+)\\(([\\w, ]*)\\)` \\|");
    private static final Pattern ACT_ROW = Pattern.compile("(?m)^\\| (\\d+) ([A-Z]+) \\| ([a-z ]+) \\|");

    /** Of each op its name and the numbers it names, as the document has them. */
    private static final String[] ACTS = {"MAKE p k s", "LOSE p", "SAME p q", "BELT b k s", "LAY b s p", "PICK p b s",
        "LONG r b", "DROP b", "WEIGH r p", "LOAD p s", "STAMP r p", "FEED r p", "AS p k", "COUNTER t s", "COUNT t s",
        "HOW r t s", "GRID g s l", "SUM r g", "ALARM a s", "HUSH a", "RAISE a", "SET r v", "ADD r s", "GO l", "IF r l"};

    public static void main(String[] args) throws IOException, ReflectiveOperationException {
        String readme = Files.readString(Path.of("README.md"));
        examplesAnswerAsTheySay(readme);
        tablesNameEachMethod(readme);
        tablesNameEachAct(readme);
        eachTestIsNamed(readme);
        CHECKS.end();
    }

    private static void holds(String what, boolean so) {
        CHECKS.due(what, 1, so ? 1 : 0);
    }

    private static void examplesAnswerAsTheySay(String readme) throws ReflectiveOperationException {
        Matcher example = EXAMPLE.matcher(readme);
        Set<String> called = new TreeSet<>();
        int examples = 0;
        while (example.find()) {
            examples++;
            carryOut("example " + examples, example.group(1).lines().collect(Collectors.toList()), called);
        }
        holds("there are examples", examples > 0);
        holds("the examples call each method, " + called, called.equals(publicMethods()));
    }

    private static void carryOut(String what, List<String> lines, Set<String> called)
            throws ReflectiveOperationException {
        holds(what + " begins with a new hall", !lines.isEmpty() && lines.get(0).equals(NEW_HALL));
        BaggageHall hall = new BaggageHall();
        for (String line : lines.subList(1, lines.size())) {
            Matcher call = CALL.matcher(line);
            boolean isCall = call.matches();
            holds(what + " has a call with its answer: " + line, isCall);
            if (isCall) {
                called.add(call.group(1));
                CHECKS.due(what + ": " + line, Integer.parseInt(call.group(3)),
                        answer(hall, call.group(1), numbers(call.group(2))));
            }
        }
    }

    private static Object[] numbers(String text) {
        List<Object> all = new ArrayList<>();
        for (String number : text.split(", ")) {
            if (!number.isEmpty()) {
                all.add(Integer.valueOf(number));
            }
        }
        return all.toArray();
    }

    private static int answer(BaggageHall hall, String name, Object[] numbers) throws ReflectiveOperationException {
        Class<?>[] types = new Class<?>[numbers.length];
        Arrays.fill(types, int.class);
        return (Integer) BaggageHall.class.getMethod(name, types).invoke(hall, numbers);
    }

    private static Set<String> publicMethods() {
        return Stream.of(BaggageHall.class.getDeclaredMethods()).filter(m -> Modifier.isPublic(m.getModifiers()))
                .map(Method::getName).collect(Collectors.toCollection(TreeSet::new));
    }

    private static void tablesNameEachMethod(String readme) {
        Matcher row = METHOD_ROW.matcher(readme);
        Set<String> named = new TreeSet<>();
        while (row.find()) {
            named.add(row.group(1));
            int numbers = row.group(2).isEmpty() ? 0 : row.group(2).split(", ").length;
            holds("a method of so many numbers: " + row.group(), Stream.of(BaggageHall.class.getDeclaredMethods())
                    .anyMatch(m -> m.getName().equals(row.group(1)) && m.getParameterCount() == numbers));
        }
        holds("the methods " + named, named.equals(publicMethods()));
    }

    private static void tablesNameEachAct(String readme) {
        Matcher row = ACT_ROW.matcher(readme);
        int op = 0;
        while (row.find()) {
            CHECKS.due("act " + row.group(), op, Integer.parseInt(row.group(1)));
            holds("act " + row.group(), op < ACTS.length && ACTS[op].equals(row.group(2) + " " + row.group(3)));
            op++;
        }
        CHECKS.due("how many acts", ACTS.length, op);
    }

    private static void eachTestIsNamed(String readme) throws IOException {
        holds("README.md names .ci/run", readme.contains("`.ci/run`"));
        holds("README.md names ../shared/tests", readme.contains("`../shared/tests/*.java`"));
        Set<String> files = new TreeSet<>();
        try (Stream<Path> all = Files.list(Path.of("src/test/java"))) {
            all.map(Path::toString).filter(path -> path.endsWith("Test.java")).forEach(files::add);
        }
        Set<String> named = new TreeSet<>();
        Matcher name = Pattern.compile("`(src/test/java/\\w+Test\\.java)`").matcher(readme);
        while (name.find()) {
            named.add(name.group(1));
        }
        holds("the tests " + files + ", named are " + named, named.equals(files));
    }
}
