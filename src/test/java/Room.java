import java.lang.reflect.Array;
import java.lang.reflect.Field;
import java.lang.reflect.Modifier;
import java.util.ArrayDeque;
import java.util.Collections;
import java.util.Deque;
import java.util.IdentityHashMap;
import java.util.Set;

/** How many objects and arrays an object is made of, and how many fields and elements they have. */
record Room(long objects, long elements) {
    static Room of(Object whole) {
        Set<Object> seen = Collections.newSetFromMap(new IdentityHashMap<>());
        Deque<Object> left = new ArrayDeque<>();
        left.add(whole);
        long elements = 0;
        while (!left.isEmpty()) {
            Object one = left.remove();
            if (seen.add(one)) {
                elements += one.getClass().isArray() ? lookInto(one, left) : lookAt(one, left);
            }
        }
        return new Room(seen.size(), elements);
    }

    private static long lookInto(Object array, Deque<Object> left) {
        int length = Array.getLength(array);
        for (int i = 0; i < length && !array.getClass().getComponentType().isPrimitive(); i++) {
            addTo(left, Array.get(array, i));
        }
        return length;
    }

    private static long lookAt(Object one, Deque<Object> left) {
        long fields = 0;
        for (Field field : one.getClass().getDeclaredFields()) {
            if (!Modifier.isStatic(field.getModifiers())) {
                fields++;
                addTo(left, valueOf(field, one));
            }
        }
        return fields;
    }

    private static Object valueOf(Field field, Object one) {
        if (field.getType().isPrimitive()) {
            return null;
        }
        try {
            field.setAccessible(true);
            return field.get(one);
        } catch (IllegalAccessException hidden) {
            throw new IllegalStateException(field.toString(), hidden);
        }
    }

    private static void addTo(Deque<Object> left, Object found) {
        if (found != null) {
            left.add(found);
        }
    }
}
