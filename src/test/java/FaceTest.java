import java.lang.reflect.Constructor;
import java.lang.reflect.Field;
import java.lang.reflect.Method;
import java.lang.reflect.Modifier;
import java.util.Set;
import java.util.TreeSet;

/** The face: what the document names is public, and all else of the class is private. */
public final class FaceTest {
    private static final Check check = new Check("FaceTest");

    public static void main(String[] args) {
        Set<String> names = new TreeSet<>();
        Set<String> hidden = new TreeSet<>();
        for (Method m : TraceQuestions.class.getDeclaredMethods()) {
            if (Modifier.isPublic(m.getModifiers())) {
                names.add(m.getReturnType() + " " + m.getName() + Set.of(m.getParameterCount()));
            } else {
                hidden.add(m.getName());
                check.due(m + " is private", Modifier.isPrivate(m.getModifiers()) ? 1 : 0, 1);
            }
        }
        Set<String> due = new TreeSet<>(Set.of("int row[5]", "void sign[1]", "int ask[1]", "long found[2]",
                "int page[3]", "int right[3]", "int masked[2]", "long cost[0]", "int bound[1]", "int save[2]"));
        due.addAll(Set.of("int tick[1]", "int saved[1]", "int scan[1]"));
        check.due("public methods " + names, names.equals(due) ? 1 : 0, 1);
        for (Method m : TraceQuestions.class.getMethods()) {
            check.due("a private method named " + m.getName(), hidden.contains(m.getName()) ? 1 : 0, 0);
        }
        fields();
        check.due("final", Modifier.isFinal(TraceQuestions.class.getModifiers()) ? 1 : 0, 1);
        Constructor<?>[] all = TraceQuestions.class.getDeclaredConstructors();
        check.due("constructors", all.length, 1);
        check.due("its modifiers", all[0].getModifiers(), Modifier.PUBLIC);
        check.end();
    }

    private static void fields() {
        Set<String> constants = new TreeSet<>();
        for (Field f : TraceQuestions.class.getDeclaredFields()) {
            if (Modifier.isPublic(f.getModifiers())) {
                constants.add(f.getName());
                check.due(f + " is final", Modifier.isFinal(f.getModifiers()) ? 1 : 0, 1);
            } else {
                check.due(f + " is private", Modifier.isPrivate(f.getModifiers()) ? 1 : 0, 1);
            }
            if (Modifier.isStatic(f.getModifiers())) {
                check.due(f + " is final", Modifier.isFinal(f.getModifiers()) ? 1 : 0, 1);
            }
        }
        Set<String> due = new TreeSet<>(Set.of("NONE", "UNKNOWN", "OUTSIDE", "DEAR", "ROOM"));
        check.due("constants " + constants, constants.equals(due) ? 1 : 0, 1);
    }
}
