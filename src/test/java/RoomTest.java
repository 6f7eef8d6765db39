import java.lang.reflect.Array;
import java.lang.reflect.Field;
import java.lang.reflect.Modifier;
import java.util.IdentityHashMap;
import java.util.Map;

/**
 * The room that ../shared/LANGUAGE.md leaves (rule 12): what an object holds when it is new, and behind as many of
 * its dearest calls as it is used for. Rows that calls make and drop aren't seen, but what they leave is.
 */
public final class RoomTest {
    private static final Check check = new Check();
    private static final int MOST_CALLS = 512;
    private static final String[] DEAR = {
        "gate 3 0; gate 3 0; gate 4 0; cart 0; cart 1; cart 2", "gate 1 0; gate 1 0; gate 1 0; cart 1; cart 2; cart 0",
        "gate 4 0; gate 4 0; gate 4 0; cart 0; cart 1; cart 2", "gate 3 0; gate 2 0; gate 3 0; cart 0; cart 1; cart 2",
        "gate 2 0; gate 1 0; gate 2 0; gate 5 1; gate 5 1; gate 5 1; cart 0; cart 1; cart 2; cart 0; cart 1; cart 2"};

    private int objects = 0;
    private long elements = 0;

    public static void main(String[] args) throws IllegalAccessException {
        RoomTest whenNew = new RoomTest();
        whenNew.count(new RefusedLast(), new IdentityHashMap<>());
        check.due("objects of a new one: " + whenNew.objects, whenNew.objects < 100 ? 1 : 0, 1);
        check.due("elements of a new one: " + whenNew.elements, whenNew.elements < 10_000 ? 1 : 0, 1);
        for (String text : DEAR) {
            dearest(text, whenNew.objects);
        }
        check.end();
    }

    private static void dearest(String text, int objectsWhenNew) throws IllegalAccessException {
        RefusedLast x = Check.yard(text);
        for (int call = 50; call < MOST_CALLS; call++) {
            ask(x, call);
        }
        RoomTest then = new RoomTest();
        then.count(x, new IdentityHashMap<>());
        check.due("objects behind '" + text + "'", then.objects, objectsWhenNew);
        check.due("elements behind '" + text + "': " + then.elements, then.elements < 25_000 ? 1 : 0, 1);
    }

    private static void ask(RefusedLast x, int call) {
        switch (call % 6) {
            case 0:
                x.foe();
                break;
            case 1:
                x.harm(call % 3, call % 2);
                break;
            case 2:
                x.out(1);
                break;
            case 3:
                x.know(call % 3);
                break;
            case 4:
                x.key(6, 5);
                break;
            default:
                x.way(0);
        }
    }

    /** Objects and arrays of the class, and what fields and elements these have. */
    private void count(Object o, Map<Object, Boolean> seen) throws IllegalAccessException {
        if (o == null || seen.put(o, true) != null) {
            return;
        }
        objects++;
        if (o.getClass().isArray()) {
            elements += Array.getLength(o);
            for (int i = 0; i < Array.getLength(o) && !o.getClass().getComponentType().isPrimitive(); i++) {
                count(Array.get(o, i), seen);
            }
            return;
        }
        for (Field f : o.getClass().getDeclaredFields()) {
            if (!Modifier.isStatic(f.getModifiers())) {
                f.setAccessible(true);
                elements++;
                if (!f.getType().isPrimitive()) {
                    count(f.get(o), seen);
                }
            }
        }
    }
}
