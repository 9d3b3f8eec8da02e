import java.lang.reflect.Array;
import java.lang.reflect.Field;
import java.lang.reflect.Modifier;
import java.util.ArrayDeque;
import java.util.Collections;
import java.util.Deque;
import java.util.IdentityHashMap;
import java.util.Set;

/**
 * The room that one object takes: objects and arrays, fields and elements, all that can be reached from it. Calls make
 * nothing (ShapeTest looks for it), so an object is as large behind its last call as when it was made.
 */
final class RoomTest {
    /** All calls of one run share 600,000 objects and 7.3 million fields and elements: a thousand objects find room. */
    private static final int MOST_OBJECTS = 600;
    private static final int MOST_PARTS = 7300;

    private static final Checks CHECKS = new Checks("RoomTest");

    private final Set<Object> seen = Collections.newSetFromMap(new IdentityHashMap<>());
    private final Deque<Object> open = new ArrayDeque<>();
    private int parts = 0;

    public static void main(String[] args) throws IllegalAccessException {
        FlaringWords x = new FlaringWords();
        RoomTest fresh = new RoomTest();
        fresh.count(x);
        CHECKS.holds(fresh.seen.size() + " objects and arrays", fresh.seen.size() <= MOST_OBJECTS);
        CHECKS.holds(fresh.parts + " fields and elements", fresh.parts <= MOST_PARTS);
        useUp(x);
        RoomTest used = new RoomTest();
        used.count(x);
        CHECKS.due("objects and arrays behind 511 calls", fresh.seen.size(), used.seen.size());
        CHECKS.due("fields and elements behind 511 calls", fresh.parts, used.parts);
        CHECKS.holds("the same objects behind 511 calls", used.seen.containsAll(fresh.seen));
        CHECKS.end();
    }

    /** 511 calls that fill all there is to fill. */
    private static void useUp(FlaringWords x) {
        x.days(12);
        x.term(0, 3);
        x.term(2, 1);
        x.term(3, 0);
        for (int i = 0; i < 60; i++) {
            x.feed("0:;".charAt(i % 3));
        }
        x.pieces();
        x.drift(12);
        x.keep(0);
        x.drift(12);
        x.keep(1);
        for (int i = 0; i < 60; i++) {
            x.feed('0');
        }
        for (int i = 0; i < 20; i++) {
            x.write(0, 0, 0);
        }
        for (int i = 0; i < 120; i++) {
            x.move(i % 40, i % 12);
            x.told(2);
            x.told(3);
        }
        x.goBack(0);
        x.told(10);
    }

    private void count(Object from) throws IllegalAccessException {
        meet(from);
        while (!open.isEmpty()) {
            Object one = open.pop();
            if (one.getClass().isArray()) {
                countElements(one);
            } else {
                countFields(one);
            }
        }
    }

    private void meet(Object one) {
        if (one != null && seen.add(one)) {
            open.push(one);
        }
    }

    private void countElements(Object array) {
        parts += Array.getLength(array);
        if (array instanceof Object[] objects) {
            for (Object element : objects) {
                meet(element);
            }
        }
    }

    private void countFields(Object one) throws IllegalAccessException {
        for (Field field : one.getClass().getDeclaredFields()) {
            if (Modifier.isStatic(field.getModifiers())) {
                continue;
            }
            parts++;
            if (!field.getType().isPrimitive()) {
                field.setAccessible(true);
                meet(field.get(one));
            }
        }
    }
}
