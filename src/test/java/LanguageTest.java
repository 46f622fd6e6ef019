import java.io.IOException;
import java.lang.reflect.Executable;
import java.lang.reflect.Field;
import java.lang.reflect.Modifier;
import java.nio.file.Files;
import java.nio.file.Path;
import java.util.ArrayList;
import java.util.List;
import java.util.Set;
import java.util.regex.Matcher;
import java.util.regex.Pattern;

/** What can be seen of the rules of LANGUAGE.md in the source's text and in the compiled class. */
public final class LanguageTest {
    private static final Check CHECK = new Check();
    private static final Path SOURCE = Path.of("src/main/java/PulseSigns.java");
    // the class needs none of these, though some rules would leave room for them
    private static final String[] UNUSED = {"package", "import", "throw", "throws", "try", "catch", "finally",
        "synchronized", "assert", "instanceof", "native", "volatile", "transient", "double", "float", "String", "Object",
        "protected", "null"};
    private static final Set<String> LIBRARY = Set.of("Math.max", "Math.min", "Math.abs", "Integer.bitCount");
    private static final int MOST_PARAMETERS = 7;
    private static final int MOST_LINES = 60;
    private static final int MOST_CLASSES = 12;
    private static final int MOST_FIELDS = 20;

    public static void main(String[] args) throws IOException {
        String all = Files.readString(SOURCE);
        CHECK.holds("signs 1 to 127 alone", all.chars().allMatch(sign -> sign >= 1 && sign <= 127));
        String code = withoutComments(all);
        words(code);
        library(code);
        methodLengths(code);
        making(code);
        for (Class<?> one : classes()) {
            members(one);
        }
        CHECK.holds("rule 11: classes", classes().size() <= MOST_CLASSES);
        CHECK.end();
    }

    private static String withoutComments(String text) {
        // comments become as many empty lines, so that lines can still be counted
        Matcher comment = Pattern.compile("(?s)/\\*.*?\\*/|//[^\\n]*").matcher(text);
        return comment.replaceAll(found -> found.group().replaceAll("[^\\n]", ""));
    }

    private static void words(String code) {
        for (String word : UNUSED) {
            CHECK.holds("the word " + word, !Pattern.compile("\\b" + word + "\\b").matcher(code).find());
        }
        CHECK.holds("rule 2: a lambda", !code.contains("->"));
        CHECK.holds("rule 2: a method reference", !code.contains("::"));
        CHECK.holds("rule 5: a static block", !Pattern.compile("static\\s*\\{").matcher(code).find());
    }

    /** Whatever stands behind a point of a class's name is one of the class's own, or on the list. */
    private static void library(String code) {
        List<String> own = new ArrayList<>();
        for (Class<?> one : classes()) {
            own.add(one.getSimpleName());
        }
        Matcher used = Pattern.compile("\\b([A-Z]\\w*)\\.(\\w+)").matcher(code);
        while (used.find()) {
            CHECK.holds("rule 4: " + used.group(), own.contains(used.group(1)) || LIBRARY.contains(used.group()));
        }
    }

    /** A method begins with a line that ends with an opening bracket and ends at the same depth. */
    private static void methodLengths(String code) {
        String[] lines = code.split("\n");
        int many = 0;
        for (int i = 0; i < lines.length; i++) {
            Matcher head = Pattern.compile("( +)[^=;]*\\w\\(.*\\) \\{").matcher(lines[i]);
            if (!head.matches() || lines[i].matches(" *(\\} )?(if|for|while|switch|else).*")) {
                continue;
            }
            int end = i;
            while (end < lines.length && !lines[end].equals(head.group(1) + "}")) {
                end++;
            }
            CHECK.holds("rule 11: lines of " + lines[i].trim(), end - i < MOST_LINES);
            many++;
        }
        CHECK.holds("methods are seen", many > 33);
    }

    /** Rows are made with the object and used again: new stands in fields and in the one constructor's loop. */
    private static void making(String code) {
        for (String line : code.split("\n")) {
            if (Pattern.compile("\\bnew\\b").matcher(line).find()) {
                CHECK.holds("rule 12: made with the object: " + line.trim(),
                        line.matches(" +(private )?final .*") || line.equals("            signs[c] = new Sign();"));
            }
        }
    }

    private static List<Class<?>> classes() {
        List<Class<?>> all = new ArrayList<>(List.of(PulseSigns.class.getDeclaredClasses()));
        all.add(PulseSigns.class);
        return all;
    }

    private static void members(Class<?> one) {
        int fields = 0;
        for (Field field : one.getDeclaredFields()) {
            int how = field.getModifiers();
            fields += Modifier.isStatic(how) ? 0 : 1;
            CHECK.holds("rule 5: " + field, !Modifier.isStatic(how)
                    || Modifier.isFinal(how) && (field.getType() == int.class || field.getType() == long.class));
        }
        CHECK.holds("rule 11: fields of " + one, fields <= MOST_FIELDS);
        List<Executable> calls = new ArrayList<>(List.of(one.getDeclaredMethods()));
        calls.addAll(List.of(one.getDeclaredConstructors()));
        for (Executable call : calls) {
            CHECK.holds("rule 11: parameters of " + call, call.getParameterCount() <= MOST_PARAMETERS);
        }
    }
}
