import java.io.IOException;
import java.lang.reflect.Field;
import java.lang.reflect.Modifier;
import java.nio.file.Files;
import java.nio.file.Path;
import java.util.List;
import java.util.regex.Matcher;
import java.util.regex.Pattern;

/** Those rules of ../shared/LANGUAGE.md that the text of the program shows: a first look, no proof. */
public final class LanguageTest {
    private static final Check check = new Check("LanguageTest");
    /** The line with which a method begins, its blanks and its parameters. */
    private static final Pattern HEAD =
            Pattern.compile("( {4}| {8})(?!if |for |while |switch )[a-zA-Z][^=;]*\\(([^)]*)\\) \\{");
    private static final Path SOURCE = Path.of("src/main/java/TraceQuestions.java");

    public static void main(String[] args) throws IOException {
        List<String> lines = Files.readAllLines(SOURCE);
        StringBuilder code = new StringBuilder();
        for (String line : lines) {
            String trimmed = line.trim();
            if (!trimmed.startsWith("*") && !trimmed.startsWith("/*")) {
                int comment = line.indexOf("//");
                code.append(comment < 0 ? line : line.substring(0, comment)).append('\n');
            }
        }
        forbiddenWords(code.toString());
        methods(code.toString().split("\n"));
        newObjects(code.toString().split("\n"));
        fields(TraceQuestions.class);
        for (Class<?> inside : TraceQuestions.class.getDeclaredClasses()) {
            fields(inside);
        }
        check.end();
    }

    private static void forbiddenWords(String code) {
        String[] words = {"import", "package", "throw", "throws", "try", "catch", "finally", "synchronized",
            "assert", "native", "volatile", "protected", "System", "Math\\.random", "Thread", "equals", "hashCode",
            "toString", "instanceof", "var", "\\w+Exact", "->", "::", "\"", "static \\{"};
        for (String word : words) {
            boolean letters = Character.isLetter(word.charAt(0));
            Matcher m = Pattern.compile(letters ? "\\b" + word + "\\b" : word).matcher(code);
            check.due("places of " + word, m.results().count(), 0);
        }
        Matcher statics = Pattern.compile("static (?!final )[^(;=]*[;=]").matcher(code);
        check.due("static fields that are not final", statics.results().count(), 0);
        check.due("signs beyond 126", code.chars().filter(c -> c > 126).count(), 0);
        Matcher classes = Pattern.compile("\\b(class|interface|enum|record) ").matcher(code);
        check.due("too many classes", classes.results().count() > 12 ? 1 : 0, 0);
    }

    /** Methods of the class and of the classes inside it begin at 4 or 8 blanks and end so. */
    private static void methods(String[] lines) {
        int found = 0;
        for (int i = 0; i < lines.length; i++) {
            Matcher m = HEAD.matcher(lines[i]);
            if (!m.matches()) {
                continue;
            }
            int end = i;
            while (!lines[end].equals(m.group(1) + "}")) {
                end++;
            }
            found++;
            check.due("too long: " + lines[i].trim(), end - i > 60 ? 1 : 0, 0);
            check.due("too many parameters: " + lines[i].trim(), m.group(2).split(",").length > 7 ? 1 : 0, 0);
        }
        check.due("methods were found", found > 60 ? 1 : 0, 1);
    }

    /** Rule 12: but for fields that hold them from the beginning, objects are made by save() alone. */
    private static void newObjects(String[] lines) {
        String method = "";
        for (String line : lines) {
            if (HEAD.matcher(line).matches()) {
                method = line.trim();
            }
            if (line.matches(".*\\bnew\\b.*") && !line.matches(" +private .* = new .*;")) {
                check.due("new in " + method, method.startsWith("public int save(") ? 1 : 0, 1);
            }
        }
    }

    /** Rules 3, 5 and 11: the types of fields, how many of them, and that static ones are constants. */
    private static void fields(Class<?> of) {
        int count = 0;
        for (Field field : of.getDeclaredFields()) {
            boolean isStatic = Modifier.isStatic(field.getModifiers());
            count += isStatic ? 0 : 1;
            Class<?> type = field.getType();
            check.due(field + " has a type of the rules", isTypeOfTheRules(type) ? 1 : 0, 1);
            check.due(field + " is a constant or no static field",
                    !isStatic || type.isPrimitive() && Modifier.isFinal(field.getModifiers()) ? 1 : 0, 1);
        }
        check.due("too many fields of " + of, count > 20 ? 1 : 0, 0);
    }

    private static boolean isTypeOfTheRules(Class<?> type) {
        if (!type.isArray()) {
            return type.isPrimitive() || type.getEnclosingClass() == TraceQuestions.class;
        }
        Class<?> element = type.getComponentType();
        return element.isArray() ? element.getComponentType().isPrimitive() : isTypeOfTheRules(element);
    }
}
