import java.lang.reflect.Array;
import java.lang.reflect.Field;
import java.lang.reflect.Modifier;
import java.util.ArrayDeque;
import java.util.Collections;
import java.util.IdentityHashMap;
import java.util.Set;

/**
 * The room that a run has: 600,000 objects and arrays, 7.3 million fields and elements. The dearest call makes the
 * object, no other call makes anything: even 512 new objects in one run stay within it.
 */
public final class RoomTest {
    private static final Due DUE = new Due("RoomTest");
    private static final int CALLS = 512;
    private static final long MOST_OBJECTS = 600000;
    private static final long MOST_ELEMENTS = 7300000;

    private long objects;
    private long elements;

    private RoomTest(Object root) throws Exception {
        Set<Object> known = Collections.newSetFromMap(new IdentityHashMap<>());
        ArrayDeque<Object> open = new ArrayDeque<>();
        known.add(root);
        open.add(root);
        while (!open.isEmpty()) {
            Object one = open.remove();
            objects++;
            if (one.getClass().isArray()) {
                elements += Array.getLength(one);
                for (int i = 0; i < Array.getLength(one); i++) {
                    meet(Array.get(one, i), known, open);
                }
            } else {
                fields(one, known, open);
            }
        }
    }

    private void fields(Object one, Set<Object> known, ArrayDeque<Object> open) throws Exception {
        for (Field f : one.getClass().getDeclaredFields()) {
            if (!Modifier.isStatic(f.getModifiers())) {
                f.setAccessible(true);
                elements++;
                meet(f.get(one), known, open);
            }
        }
    }

    private static void meet(Object other, Set<Object> known, ArrayDeque<Object> open) {
        boolean own = other != null && (other.getClass().isArray() || other.getClass().getName().startsWith("AtomLadders"));
        if (own && known.add(other)) {
            open.add(other);
        }
    }

    public static void main(String[] args) throws Exception {
        RoomTest fresh = new RoomTest(new AtomLadders());
        System.out.println("RoomTest: an object is " + fresh.objects + " objects, " + fresh.elements + " elements");
        DUE.holds("objects of " + CALLS + " new ones", fresh.objects * CALLS <= MOST_OBJECTS);
        DUE.holds("elements of " + CALLS + " new ones", fresh.elements * CALLS <= MOST_ELEMENTS);
        RoomTest full = new RoomTest(States.full());
        DUE.is("a full one has no more objects", full.objects, fresh.objects);
        DUE.is("a full one has no more elements", full.elements, fresh.elements);
        DUE.end();
    }
}
