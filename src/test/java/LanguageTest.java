import java.io.IOException;
import java.lang.reflect.Field;
import java.lang.reflect.Method;
import java.lang.reflect.Modifier;
import java.nio.file.Files;
import java.nio.file.Path;
import java.util.Arrays;
import java.util.List;
import java.util.Set;
import java.util.TreeSet;
import java.util.regex.Matcher;
import java.util.regex.Pattern;

/** The rules of LANGUAGE.md that can be looked up in the class and its text. */
public final class LanguageTest {
    private static final Check check = new Check("LanguageTest");
    private static final List<String> FACE = List.of("disc 1", "aim 3", "depth 2", "height 2", "at 1",
            "read 3", "lie 1", "joined 1", "step 1", "profile 1", "wire 3", "wires 1", "pull 3", "rest 1",
            "stroke 3", "undo 0", "replay 2", "plan 2", "right 1", "work 1", "bend 3", "bear 1", "warm 2",
            "cool 1", "still 1", "warmth 1", "grit 2", "slack 1", "wets 2", "count 1");
    private static final List<String> CONSTANTS = List.of("BAD", "NO", "FULL", "NONE");
    private static final List<String> BANNED = List.of("throw", "throws", "try", "catch", "finally",
            "synchronized", "assert", "protected", "lambda", "Exact", "Random", "Thread", "System.out",
            "nanoTime", "hashCode", "toString", "instanceof", "double", "float", "MAX_VALUE", "MIN_VALUE");

    public static void main(String[] args) throws IOException {
        face();
        classes();
        text();
        check.end();
    }

    private static void face() {
        Class<?> face = MirrorTrue.class;
        check.holds("public and final", Modifier.isPublic(face.getModifiers())
                && Modifier.isFinal(face.getModifiers()));
        check.due("constructors", face.getDeclaredConstructors().length, 1);
        check.holds("public constructor", Modifier.isPublic(face.getDeclaredConstructors()[0].getModifiers()));
        Set<String> found = new TreeSet<>();
        for (Method method : face.getDeclaredMethods()) {
            boolean isPublic = Modifier.isPublic(method.getModifiers());
            check.holds(method + " is public or private",
                    isPublic || Modifier.isPrivate(method.getModifiers()) || method.isSynthetic());
            if (isPublic) {
                found.add(method.getName() + " " + method.getParameterCount());
                check.holds(method + " answers a number", method.getReturnType()
                        == (method.getName().equals("depth") ? long.class : int.class));
                check.holds(method + " takes numbers",
                        Arrays.stream(method.getParameterTypes()).allMatch(type -> type == int.class));
            }
        }
        check.holds("the face is as told: " + found, found.equals(new TreeSet<>(FACE)));
        for (Field field : face.getDeclaredFields()) {
            boolean told = CONSTANTS.contains(field.getName());
            check.holds(field + " is as public as told", told ? Modifier.isPublic(field.getModifiers())
                    : Modifier.isPrivate(field.getModifiers()));
        }
        check.due("BAD", MirrorTrue.BAD, -1);
        check.due("NO", MirrorTrue.NO, -2);
        check.due("FULL", MirrorTrue.FULL, -3);
        check.due("NONE", MirrorTrue.NONE, -4);
    }

    /** A method stands between its head and the brace that stands as far in as the head. */
    private static void methodLengths(String text) {
        Matcher method = Pattern.compile("(?m)^( {4}| {8})(?! |private static final class)(.*\\) \\{)$").matcher(text);
        int methods = 0;
        while (method.find()) {
            int end = text.indexOf("\n" + method.group(1) + "}", method.end());
            long lines = text.substring(method.start(), Math.max(method.start(), end)).lines().count() + 1;
            methods++;
            check.holds(method.group(2) + " has some sixty lines at most, not " + lines, end > 0 && lines <= 60);
        }
        check.holds("methods are found: " + methods, methods > 100);
    }

    private static void classes() {
        Class<?>[] inside = MirrorTrue.class.getDeclaredClasses();
        check.holds("some twelve classes at most", inside.length < 12);
        for (Class<?> one : inside) {
            check.holds(one + " is private and static", Modifier.isPrivate(one.getModifiers())
                    && Modifier.isStatic(one.getModifiers()));
            int fields = 0;
            for (Field field : one.getDeclaredFields()) {
                boolean isStatic = Modifier.isStatic(field.getModifiers());
                fields += isStatic ? 0 : 1;
                check.holds(field + " is no static state",
                        !isStatic || Modifier.isFinal(field.getModifiers()) && field.getType().isPrimitive());
            }
            check.holds(one + " has some twenty fields at most", fields <= 20);
            for (Method method : one.getDeclaredMethods()) {
                check.holds(method + " bears no name of the face",
                        FACE.stream().noneMatch(call -> call.startsWith(method.getName() + " ")));
                check.holds(method + " takes seven at most", method.getParameterCount() <= 7);
            }
        }
    }

    private static void text() throws IOException {
        Path source = Path.of(System.getProperty("mirror.source", "src/main/java/MirrorTrue.java"));
        String text = Files.readString(source).replaceAll("(?s)/\\*.*?\\*/", "").replaceAll("//[^\n]*", "");
        for (String word : BANNED) {
            check.holds("no " + word, !Pattern.compile("\\b" + Pattern.quote(word) + "\\b").matcher(text).find());
        }
        check.holds("no lambda", !text.contains("->"));
        check.holds("no method reference", !text.contains("::"));
        check.holds("signs 1 to 127", text.chars().allMatch(sign -> sign > 0 && sign < 128));
        check.holds("one import", text.split("\\bimport\\b", -1).length == 2
                && text.contains("import java.util.Arrays;"));
        // What a call makes is counted in one room with all other calls: none makes anything.
        for (String line : text.split("\n")) {
            check.holds("made once for an object: " + line.trim(),
                    !line.contains("new ") || line.trim().startsWith("private final "));
        }
        methodLengths(text);
        Matcher library = Pattern.compile("\\b(Arrays|Math|Integer|Long|System)\\.(\\w+)").matcher(text);
        while (library.find()) {
            check.holds(library.group() + " is listed", List.of("Arrays.fill", "Math.abs", "Math.min",
                    "Math.max", "Math.floorDiv", "Integer.bitCount", "System.arraycopy").contains(library.group()));
        }
    }
}
