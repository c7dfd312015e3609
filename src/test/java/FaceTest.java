import java.lang.reflect.Constructor;
import java.lang.reflect.Field;
import java.lang.reflect.Method;
import java.lang.reflect.Modifier;
import java.util.Set;
import java.util.TreeSet;

/** The face: what the document names is public, and all else of the class is private. */
public final class FaceTest {
    private static final Check check = new Check("FaceTest");

    public static void main(String[] args) {
        Set<String> names = new TreeSet<>();
        Set<String> hidden = new TreeSet<>();
        for (Method m : TraceQuestions.class.getDeclaredMethods()) {
            if (Modifier.isPublic(m.getModifiers())) {
                names.add(m.getReturnType() + " " + m.getName() + parameters(m.getParameterTypes()));
                check.due(m + " throws", m.getExceptionTypes().length, 0);
                check.due(m + " is static", Modifier.isStatic(m.getModifiers()) ? 1 : 0, 0);
            } else {
                hidden.add(m.getName());
                check.due(m + " is private", Modifier.isPrivate(m.getModifiers()) ? 1 : 0, 1);
            }
        }
        Set<String> due = new TreeSet<>(Set.of("int row(int, int, int, long, int)", "void sign(int)", "int ask(int)",
                "long found(int, int)", "int page(int, long, int)", "int right(int, int, int)"));
        due.addAll(Set.of("int masked(int, boolean)", "long cost()", "int bound(long)", "int save(int, long)",
                "int tick(long)", "int saved(int)", "int scan(int)"));
        check.due("public methods " + names, names.equals(due) ? 1 : 0, 1);
        for (Method m : TraceQuestions.class.getMethods()) {
            check.due("a private method named " + m.getName(), hidden.contains(m.getName()) ? 1 : 0, 0);
        }
        fields();
        check.due("final", Modifier.isFinal(TraceQuestions.class.getModifiers()) ? 1 : 0, 1);
        Constructor<?>[] all = TraceQuestions.class.getDeclaredConstructors();
        check.due("constructors", all.length, 1);
        check.due("its modifiers", all[0].getModifiers(), Modifier.PUBLIC);
        check.due("its parameters", all[0].getParameterCount(), 0);
        classesInside();
        check.end();
    }

    private static String parameters(Class<?>[] types) {
        StringBuilder all = new StringBuilder("(");
        for (int i = 0; i < types.length; i++) {
            all.append(i == 0 ? "" : ", ").append(types[i]);
        }
        return all + ")";
    }

    private static void classesInside() {
        for (Class<?> inside : TraceQuestions.class.getDeclaredClasses()) {
            int modifiers = inside.getModifiers();
            check.due(inside + " is static", Modifier.isStatic(modifiers) ? 1 : 0, 1);
            check.due(inside + " is public or protected",
                    Modifier.isPublic(modifiers) || Modifier.isProtected(modifiers) ? 1 : 0, 0);
        }
    }

    private static void fields() {
        Set<String> constants = new TreeSet<>();
        for (Field f : TraceQuestions.class.getDeclaredFields()) {
            if (Modifier.isPublic(f.getModifiers())) {
                constants.add(f.getName());
                check.due(f + " is an int", f.getType() == int.class ? 1 : 0, 1);
                check.due(f + " is static", Modifier.isStatic(f.getModifiers()) ? 1 : 0, 1);
                check.due(f + " is final", Modifier.isFinal(f.getModifiers()) ? 1 : 0, 1);
            } else {
                check.due(f + " is private", Modifier.isPrivate(f.getModifiers()) ? 1 : 0, 1);
            }
            if (Modifier.isStatic(f.getModifiers())) {
                check.due(f + " is final", Modifier.isFinal(f.getModifiers()) ? 1 : 0, 1);
            }
        }
        Set<String> due = new TreeSet<>(Set.of("NONE", "UNKNOWN", "OUTSIDE", "DEAR", "ROOM"));
        check.due("constants " + constants, constants.equals(due) ? 1 : 0, 1);
    }
}
