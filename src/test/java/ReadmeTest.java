import java.io.IOException;
import java.lang.reflect.Field;
import java.lang.reflect.Method;
import java.lang.reflect.Modifier;
import java.nio.file.Files;
import java.nio.file.Path;
import java.util.List;
import java.util.regex.Matcher;
import java.util.regex.Pattern;

/** What README.md says: its examples are run from the first to the last, all on one object, as it says. */
public final class ReadmeTest {
    private static final Check check = new Check("ReadmeTest");
    private static final Path README = Path.of("README.md");
    private static final Pattern CALL = Pattern.compile("x\\.(\\w+)\\((.*?)\\); +// (-?\\d+|[A-Z]+)(:.*)?");
    private static final Pattern WRITE = Pattern.compile("write\\(x, \"(.*)\"\\);");
    private static final Pattern QUESTION = Pattern.compile("(.*?) {2,}(rows|groups|answer)((?: [-:\\d]+)*)(?: {2,}.*)?");
    private static final List<String> HEADS = List.of(
            "int row(int item, int kind, int place, long day, int owner)", "void sign(int c)", "int ask(int who)",
            "long found(int i, int what)", "int page(int n, long moment, int i)",
            "int right(int who, int owner, int kind)", "int masked(int field, boolean on)", "long cost()",
            "int bound(long steps)", "int save(int who, long every)", "int tick(long t)", "int saved(int question)",
            "int scan(int who)");

    private TraceQuestions x = new TraceQuestions();
    private int calls = 0;
    private int examples = 0;

    public static void main(String[] args) throws IOException, ReflectiveOperationException {
        List<String> lines = Files.readAllLines(README);
        for (String head : HEADS) {
            check.due("headings " + head, lines.stream().filter(("### `" + head + "`")::equals).count(), 1);
        }
        constants(lines);
        new ReadmeTest().run(lines);
        check.end();
    }

    /** The table names each public constant with its value. */
    private static void constants(List<String> lines) throws IllegalAccessException {
        for (Field f : TraceQuestions.class.getDeclaredFields()) {
            if (Modifier.isPublic(f.getModifiers())) {
                String row = "| `" + f.getName() + "` | " + f.getInt(null) + " | ";
                check.due("rows " + row, lines.stream().filter(line -> line.startsWith(row)).count(), 1);
            }
        }
    }

    /** The lines of the blocks that tell of answers, one after another. */
    private void run(List<String> lines) throws ReflectiveOperationException {
        String block = "";
        for (String line : lines) {
            if (line.startsWith("```")) {
                block = line.substring(3);
            } else if (block.equals("java")) {
                runJava(line);
            } else if (block.equals("text")) {
                runQuestion(line);
            }
        }
        check.due("examples that were run are more than 70", examples > 70 ? 1 : 0, 1);
        check.due("calls beyond the 512", Math.max(0, calls - 512), 0);
    }

    private void runJava(String line) throws ReflectiveOperationException {
        Matcher call = CALL.matcher(line);
        Matcher write = WRITE.matcher(line);
        if (line.equals("TraceQuestions x = new TraceQuestions();")) {
            x = new TraceQuestions();
            calls = 0;
        } else if (write.matches()) {
            write(write.group(1));
        } else if (line.startsWith("x.") || line.startsWith("write(")) {
            check.due("an example that can be read: " + line, call.matches() ? 1 : 0, 1);
            if (call.matches()) {
                due(line, answer(call.group(1), call.group(2)), value(call.group(3)));
            }
        }
    }

    private void due(String line, long got, long want) {
        examples++;
        check.due(line, got, want);
    }

    private void write(String text) {
        Check.write(x, text);
        calls += text.length();
    }

    private static long value(String word) throws ReflectiveOperationException {
        return Character.isLetter(word.charAt(0)) ? TraceQuestions.class.getField(word).getInt(null)
                : Long.parseLong(word);
    }

    private long answer(String name, String listed) throws ReflectiveOperationException {
        for (Method m : TraceQuestions.class.getDeclaredMethods()) {
            if (m.getName().equals(name) && Modifier.isPublic(m.getModifiers())) {
                Class<?>[] types = m.getParameterTypes();
                String[] words = listed.isEmpty() ? new String[0] : listed.split(", ");
                Object[] given = new Object[words.length];
                for (int i = 0; i < words.length; i++) {
                    given[i] = argument(types[i], words[i]);
                }
                calls++;
                return ((Number) m.invoke(x, given)).longValue();
            }
        }
        throw new IllegalStateException(name);
    }

    private static Object argument(Class<?> type, String word) {
        if (type == boolean.class) {
            return Boolean.valueOf(word);
        }
        return type == long.class ? (Object) Long.valueOf(word) : Integer.valueOf(word);
    }

    /** A question and what asker 0 finds: rows, groups with their counts, or the answer alone. */
    private void runQuestion(String line) {
        Matcher m = QUESTION.matcher(line);
        check.due("a question that can be read: " + line, m.matches() ? 1 : 0, 1);
        if (!m.matches()) {
            return;
        }
        write(m.group(1));
        calls++;
        int answer = x.ask(0);
        String[] told = m.group(3).isEmpty() ? new String[0] : m.group(3).trim().split(" ");
        boolean findsSome = !m.group(2).equals("answer");
        due(line, answer, findsSome ? told.length : Long.parseLong(told[0]));
        for (int i = 0; findsSome && i < told.length; i++) {
            String[] pair = told[i].split(":");
            for (int what = 0; what < pair.length; what++) {
                calls++;
                check.due(line + " at " + i, x.found(i, what), Long.parseLong(pair[what]));
            }
        }
    }
}
