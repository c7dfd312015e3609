import java.lang.reflect.Array;
import java.lang.reflect.Field;
import java.lang.reflect.Modifier;
import java.util.ArrayDeque;
import java.util.Collections;
import java.util.IdentityHashMap;
import java.util.Set;

/** LANGUAGE.md, rule 12: what an object holds, in objects and arrays and in fields and elements. */
public final class RoomTest {
    private static final Check check = new Check("RoomTest");

    private int objects = 0;
    private int elements = 0;
    private final Set<Object> seen = Collections.newSetFromMap(new IdentityHashMap<>());
    private final ArrayDeque<Object> open = new ArrayDeque<>();

    public static void main(String[] args) throws IllegalAccessException {
        TraceQuestions x = new TraceQuestions();
        dueAtMost("a new object", x, 100, 12500);
        fill(x);
        dueAtMost("a full one", x, 250, 20000);
        check.end();
    }

    private static void dueAtMost(String name, TraceQuestions x, int objects, int elements)
            throws IllegalAccessException {
        RoomTest room = new RoomTest();
        room.count(x);
        System.out.println("RoomTest: " + name + " has " + room.objects + " objects and arrays, "
                + room.elements + " fields and elements");
        check.due("objects of " + name + " above " + objects, Math.max(0, room.objects - objects), 0);
        check.due("elements of " + name + " above " + elements, Math.max(0, room.elements - elements), 0);
    }

    private static void fill(TraceQuestions x) {
        for (int i = 0; i < 300; i++) {
            x.row(i, 1, 1, 1, 1);
        }
        for (int i = 0; i < 100; i++) {
            x.right(i % 50, i, -1);
        }
        for (int i = 0; i < 21; i++) {
            Check.write(x, "+i");
            x.save(0, 1);
        }
        for (int i = 0; i < 10; i++) {
            x.ask(0);
            x.page(0, 300, 0);
            x.tick(1000L * i);
        }
    }

    private void count(Object root) throws IllegalAccessException {
        open.add(root);
        seen.add(root);
        while (!open.isEmpty()) {
            Object one = open.remove();
            objects++;
            if (one.getClass().isArray()) {
                countArray(one);
            } else {
                countFields(one);
            }
        }
    }

    private void countArray(Object array) {
        elements += Array.getLength(array);
        if (!array.getClass().getComponentType().isPrimitive()) {
            for (int i = 0; i < Array.getLength(array); i++) {
                follow(Array.get(array, i));
            }
        }
    }

    private void countFields(Object one) throws IllegalAccessException {
        for (Field field : one.getClass().getDeclaredFields()) {
            if (!Modifier.isStatic(field.getModifiers())) {
                elements++;
                field.setAccessible(true);
                if (!field.getType().isPrimitive()) {
                    follow(field.get(one));
                }
            }
        }
    }

    private void follow(Object next) {
        if (next != null && seen.add(next)) {
            open.add(next);
        }
    }
}
