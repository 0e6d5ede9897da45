import java.io.IOException;
import java.lang.reflect.InvocationTargetException;
import java.lang.reflect.Method;
import java.lang.reflect.Modifier;
import java.nio.file.Files;
import java.nio.file.Path;
import java.util.ArrayList;
import java.util.Arrays;
import java.util.Collections;
import java.util.List;
import java.util.Set;
import java.util.TreeSet;
import java.util.regex.Matcher;
import java.util.regex.Pattern;
import java.util.stream.Collectors;
import java.util.stream.Stream;

/** What README.md says is so: its example, its rows of calls, its rows of tests. */
public final class ReadmeTest {
    private static final Check check = new Check("ReadmeTest");
    private static final Path ROOT = Path.of(System.getProperty("mirror.root", "."));
    private static final Pattern EXAMPLE = Pattern.compile("x\\.(\\w+)\\((.*?)\\);\\s+// (-?\\d+)");
    private static final Pattern CALL = Pattern.compile("\\| `(\\w+)\\((.*?)\\)` \\| .* \\| (.*) \\|");
    private static final Pattern TEST = Pattern.compile("\\| `(\\w+Test)` \\| .* \\|");
    private static final Pattern MAIN = Pattern.compile("static void main");
    // No call of the face is told either of these.
    private static final int[] TOLD_NOWHERE = {Integer.MIN_VALUE, 1000000};

    public static void main(String[] args) throws IOException {
        List<String> lines = Files.readAllLines(ROOT.resolve("README.md"));
        example(lines);
        calls(lines);
        tests(lines);
        check.end();
    }

    private static void example(List<String> lines) {
        MirrorTrue x = new MirrorTrue();
        int rows = 0;
        for (String line : lines) {
            Matcher row = EXAMPLE.matcher(line);
            if (row.matches()) {
                rows++;
                int[] numbers = Arrays.stream(row.group(2).split(", *"))
                        .filter(number -> !number.isEmpty()).mapToInt(Integer::parseInt).toArray();
                check.due(line, ask(x, row.group(1), numbers), Long.parseLong(row.group(3)));
            }
        }
        check.holds("the example has rows", rows > 5);
    }

    /** Each call has a row, and the row names what it gives for a number that is none that is told. */
    private static void calls(List<String> lines) {
        List<String> found = new ArrayList<>();
        for (String line : lines) {
            Matcher row = CALL.matcher(line);
            if (row.matches()) {
                int many = row.group(2).isEmpty() ? 0 : row.group(2).split(",").length;
                found.add(row.group(1) + " " + many);
                refusal(line, row.group(1), many, row.group(3));
            }
        }
        List<String> face = Arrays.stream(MirrorTrue.class.getDeclaredMethods())
                .filter(method -> Modifier.isPublic(method.getModifiers()))
                .map(method -> method.getName() + " " + method.getParameterCount())
                .collect(Collectors.toCollection(ArrayList::new));
        Collections.sort(face);
        Collections.sort(found);
        check.holds("each call has a row: " + found, found.equals(face));
    }

    private static void refusal(String line, String name, int many, String told) {
        String first = told.split(",")[0].replace("`", "").trim();
        long due = first.equals("BAD") ? -1 : first.equals("NO") ? -2 : Long.parseLong(first);
        for (int number : TOLD_NOWHERE) {
            int[] numbers = new int[many];
            Arrays.fill(numbers, number);
            check.due(line + " for " + number, ask(new MirrorTrue(), name, numbers), due);
        }
    }

    private static void tests(List<String> lines) throws IOException {
        Set<String> rows = new TreeSet<>();
        for (String line : lines) {
            Matcher row = TEST.matcher(line);
            if (row.matches()) {
                rows.add(row.group(1));
            }
        }
        Set<String> files = new TreeSet<>();
        try (Stream<Path> paths = Files.walk(ROOT.resolve("src/test/java"))) {
            for (Path path : paths.filter(Files::isRegularFile).collect(Collectors.toList())) {
                if (MAIN.matcher(Files.readString(path)).find()) {
                    files.add(path.getFileName().toString().replace(".java", ""));
                }
            }
        }
        check.holds("each test has a row: " + rows, rows.equals(files));
    }

    private static long ask(MirrorTrue x, String name, int[] numbers) {
        Class<?>[] types = new Class<?>[numbers.length];
        Arrays.fill(types, int.class);
        Object[] boxed = Arrays.stream(numbers).boxed().toArray();
        try {
            Method method = MirrorTrue.class.getMethod(name, types);
            return ((Number) method.invoke(x, boxed)).longValue();
        } catch (NoSuchMethodException | IllegalAccessException | InvocationTargetException e) {
            throw new IllegalStateException(name, e);
        }
    }
}
