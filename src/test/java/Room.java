import java.lang.reflect.Array;
import java.lang.reflect.Field;
import java.lang.reflect.Modifier;
import java.util.ArrayDeque;
import java.util.Collections;
import java.util.Deque;
import java.util.IdentityHashMap;
import java.util.Set;

/** Counts the objects and arrays that an object holds, and their fields and elements. */
final class Room {
    int objects;
    int fields;
    private final Set<Object> seen = Collections.newSetFromMap(new IdentityHashMap<>());
    private final Deque<Object> left = new ArrayDeque<>();

    Room(Object first) throws IllegalAccessException {
        reach(first);
        while (!left.isEmpty()) {
            count(left.pop());
        }
    }

    private void reach(Object object) {
        if (object != null && seen.add(object)) {
            left.push(object);
        }
    }

    private void count(Object object) throws IllegalAccessException {
        objects++;
        Class<?> type = object.getClass();
        if (type.isArray()) {
            fields += Array.getLength(object);
            for (int i = 0; i < Array.getLength(object) && !type.getComponentType().isPrimitive(); i++) {
                reach(Array.get(object, i));
            }
            return;
        }
        for (Field field : type.getDeclaredFields()) {
            if (!Modifier.isStatic(field.getModifiers())) {
                fields++;
                field.setAccessible(true);
                if (!field.getType().isPrimitive()) {
                    reach(field.get(object));
                }
            }
        }
    }
}
