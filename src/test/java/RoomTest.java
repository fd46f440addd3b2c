import java.lang.reflect.Array;
import java.lang.reflect.Field;
import java.lang.reflect.Modifier;
import java.util.ArrayDeque;
import java.util.Collections;
import java.util.Deque;
import java.util.IdentityHashMap;
import java.util.Set;

/**
 * How many objects and arrays, fields and elements an object keeps: all calls of one run live in one
 * room, and all that is made but the items is made in the constructor.
 */
public final class RoomTest {
    /** A thousandth of the room's 600,000 objects and 7.3 million elements, and room for the items. */
    private static final int MOST_OBJECTS = 600;
    private static final int MOST_ELEMENTS = 8000;
    private static final int MOST_ITEMS = 100;
    private static final int FIELDS_OF_AN_ITEM = 6;

    private final Check check = new Check("RoomTest");
    private int objects;
    private int elements;

    public static void main(String[] args) throws IllegalAccessException {
        RoomTest test = new RoomTest();
        test.allOfAnObject();
        test.check.end();
    }

    private void allOfAnObject() throws IllegalAccessException {
        PostTariff tariff = new PostTariff();
        count(tariff);
        int objectsBefore = objects;
        int elementsBefore = elements;
        use(tariff);
        count(tariff);
        check.due("objects that calls made", objects - objectsBefore, MOST_ITEMS);
        check.due("fields of these", elements - elementsBefore, MOST_ITEMS * FIELDS_OF_AN_ITEM);
        check.holds("few objects: " + objects, objects <= MOST_OBJECTS);
        check.holds("few elements: " + elements, elements <= MOST_ELEMENTS);
    }

    /** More items, editions and signs than there is room for, and each other call. */
    private static void use(PostTariff tariff) {
        for (int i = 0; i <= MOST_ITEMS; i++) {
            tariff.item(1, 1, 1, 1, 1);
            tariff.service(i, 3);
        }
        for (int e = 0; e <= 5; e++) {
            Check.read(tariff, Texts.ALL_ROWS);
            tariff.price(e, 0, 7);
            tariff.least(e, 0, 7);
            tariff.explain(e, 1);
            tariff.dimensional(e, 1);
            tariff.compare(e);
            tariff.print();
            tariff.at(e);
        }
        Check.read(tariff, SignTest.longestText() + "more");
    }

    /** Goes to all that can be reached; each object and array is counted once. */
    private void count(Object first) throws IllegalAccessException {
        objects = 0;
        elements = 0;
        Set<Object> seen = Collections.newSetFromMap(new IdentityHashMap<>());
        Deque<Object> open = new ArrayDeque<>();
        open.add(first);
        while (!open.isEmpty()) {
            Object one = open.remove();
            if (!seen.add(one)) {
                continue;
            }
            objects++;
            if (one.getClass().isArray()) {
                addElements(one, open);
            } else {
                addFields(one, open);
            }
        }
    }

    private void addElements(Object array, Deque<Object> open) {
        int length = Array.getLength(array);
        elements += length;
        for (int i = 0; i < length && !array.getClass().getComponentType().isPrimitive(); i++) {
            if (Array.get(array, i) != null) {
                open.add(Array.get(array, i));
            }
        }
    }

    private void addFields(Object one, Deque<Object> open) throws IllegalAccessException {
        for (Field field : one.getClass().getDeclaredFields()) {
            if (Modifier.isStatic(field.getModifiers())) {
                continue;
            }
            elements++;
            field.setAccessible(true);
            if (!field.getType().isPrimitive() && field.get(one) != null) {
                open.add(field.get(one));
            }
        }
    }
}
