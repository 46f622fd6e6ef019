import java.io.IOException;
import java.lang.reflect.Method;
import java.lang.reflect.Modifier;
import java.nio.file.DirectoryStream;
import java.nio.file.Files;
import java.nio.file.Path;
import java.util.ArrayList;
import java.util.Arrays;
import java.util.List;
import java.util.TreeSet;
import java.util.regex.Matcher;
import java.util.regex.Pattern;

/** README.md says what is so: its examples, its tables of calls, constants and tests. Run from the project's folder. */
public final class ReadmeTest {
    private static final Check CHECK = new Check();
    private static final Pattern NEW = Pattern.compile("PulseSigns x = new PulseSigns\\(\\);");
    private static final Pattern EXAMPLE = Pattern.compile("x\\.(\\w+)\\(([^()]*)\\)\\)?;\\s*// (-?\\d+)");
    private static final Pattern CALL = Pattern.compile("\\| `(\\w+)\\(([^)]*)\\)` \\| [^|]* \\|([^|]*)\\|");
    private static final Pattern CONSTANT = Pattern.compile("`([A-Z]+)`(?: \\| | \\()(-\\d+)");
    private static final Pattern TESTED = Pattern.compile("\\| `(\\w+Test)` \\|.*");
    private static final Pattern BOUNDS = Pattern.compile("(\\w+)(?: (?:(-?\\d+) (?:to|or) (\\d+)|.*))?");

    public static void main(String[] args) throws IOException, ReflectiveOperationException {
        List<String> lines = Files.readAllLines(Path.of("README.md"));
        examples(lines);
        calls(lines);
        constants(lines);
        tests(lines);
        CHECK.end();
    }

    /** Each call in a Java block is made, and answers what stands behind it. */
    private static void examples(List<String> lines) throws ReflectiveOperationException {
        PulseSigns x = null;
        boolean inside = false;
        TreeSet<String> shown = new TreeSet<>();
        for (String line : lines) {
            inside = line.startsWith("```") ? line.equals("```java") : inside;
            Matcher example = EXAMPLE.matcher(line);
            if (inside && NEW.matcher(line).find()) {
                x = new PulseSigns();
            } else if (inside && line.contains("x.")) {
                CHECK.holds("an example is written with its answer: " + line, example.find());
                String[] with = split(example.group(2).replace("PulseSigns.NONE", "-1"));
                int[] numbers = Arrays.stream(with).mapToInt(Integer::parseInt).toArray();
                CHECK.due("README.md: " + line.trim(), Calls.call(x, example.group(1), numbers), Long.parseLong(example.group(3)));
                shown.add(example.group(1));
            }
        }
        CHECK.holds("calls of every group are shown: " + shown,
                shown.containsAll(List.of("best", "own", "unfold", "found", "told", "digest")));
    }

    /** The tables name each call of the face with all its arguments, and its refusals as they are. */
    private static void calls(List<String> lines) throws ReflectiveOperationException {
        TreeSet<String> named = new TreeSet<>();
        for (String line : lines) {
            Matcher call = CALL.matcher(line);
            if (call.matches()) {
                String[] names = split(call.group(2));
                named.add(call.group(1) + "/" + names.length);
                refusals(call.group(1), Arrays.asList(names), call.group(3).trim());
            }
        }
        TreeSet<String> face = new TreeSet<>();
        for (Method method : PulseSigns.class.getDeclaredMethods()) {
            if (Modifier.isPublic(method.getModifiers())) {
                face.add(method.getName() + "/" + method.getParameterCount());
            }
        }
        CHECK.holds("README.md names the calls " + named + ", the face has " + face, named.equals(face));
    }

    /** Written "CODE name 1 to 16, name; CODE name": beyond the bounds, or far off, the call answers the code. */
    private static void refusals(String name, List<String> names, String text) throws ReflectiveOperationException {
        for (String part : text.isEmpty() ? new String[0] : text.split("; ")) {
            String code = part.substring(0, part.indexOf(' ')).replace("`", "");
            if (code.equals("FULL")) {
                continue;
            }
            long want = code.startsWith("-") ? Long.parseLong(code) : PulseSigns.class.getField(code).getInt(null);
            for (String bound : part.substring(part.indexOf(' ') + 1).split(", ")) {
                Matcher read = BOUNDS.matcher(bound);
                CHECK.holds("the bounds of " + name + " can be read: " + bound, read.matches());
                int at = names.indexOf(read.group(1));
                CHECK.holds(name + " has the argument " + read.group(1), at >= 0);
                refused(name, names, at, want, read);
            }
        }
    }

    private static void refused(String name, List<String> names, int at, long want, Matcher read)
            throws ReflectiveOperationException {
        boolean bounded = read.group(2) != null;
        List<Integer> beyond = new ArrayList<>(List.of(-99, Integer.MAX_VALUE));
        if (bounded) {
            int low = Integer.parseInt(read.group(2));
            int high = Integer.parseInt(read.group(3));
            beyond.addAll(List.of(low - 1, high + 1));
            CHECK.holds(name + " takes " + read.group(), tried(name, names, at, low) != want);
            CHECK.holds(name + " takes " + read.group(), tried(name, names, at, high) != want);
        }
        // k of an answer has no upper bound, and the table says so: "k from 0"
        beyond.removeIf(value -> read.group().contains(" from ") && value > 0);
        for (int value : beyond) {
            CHECK.due(name + " with " + names.get(at) + " = " + value, tried(name, names, at, value), want);
        }
    }

    /** The call with arguments that are all well but for the one that is tried. */
    private static long tried(String name, List<String> names, int at, int value) throws ReflectiveOperationException {
        int[] with = names.stream().mapToInt(ReadmeTest::usual).toArray();
        with[at] = value;
        PulseSigns x = new PulseSigns();
        x.put(1);
        return Calls.call(x, name, with);
    }

    private static int usual(String name) {
        if (name.equals("p")) {
            return 2;
        }
        return List.of("n", "k", "m", "span", "round", "w", "s", "u").contains(name) ? 1 : 0;
    }

    private static void constants(List<String> lines) throws ReflectiveOperationException {
        TreeSet<String> named = new TreeSet<>();
        for (String line : lines) {
            Matcher constant = CONSTANT.matcher(line);
            while (constant.find()) {
                int is = PulseSigns.class.getField(constant.group(1)).getInt(null);
                CHECK.due("README.md: " + constant.group(1), Integer.parseInt(constant.group(2)), is);
                named.add(constant.group(1));
            }
        }
        CHECK.holds("every constant is told: " + named,
                named.equals(new TreeSet<>(List.of("NONE", "UNKNOWN", "OUTSIDE", "STATE", "FULL"))));
    }

    private static void tests(List<String> lines) throws IOException {
        TreeSet<String> named = new TreeSet<>();
        for (String line : lines) {
            Matcher test = TESTED.matcher(line);
            if (test.matches()) {
                named.add(test.group(1) + ".java");
            }
        }
        TreeSet<String> there = new TreeSet<>();
        try (DirectoryStream<Path> files = Files.newDirectoryStream(Path.of("src/test/java"), "*Test.java")) {
            for (Path file : files) {
                there.add(file.getFileName().toString());
            }
        }
        CHECK.holds("README.md names the tests " + named + ", there are " + there, named.equals(there));
    }

    private static String[] split(String list) {
        return list.isEmpty() ? new String[0] : list.split(", ");
    }
}
