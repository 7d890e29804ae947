import java.lang.reflect.Array;
import java.lang.reflect.Field;
import java.lang.reflect.Modifier;
import java.util.Collections;
import java.util.IdentityHashMap;
import java.util.Set;

/** All calls of one run live in one room: an object is small from the start, and calls make next to nothing. */
public final class RoomTest {
    // 512 objects of this size, one for each call of a run, would still fit into the room.
    private static final int MOST_OBJECTS = 600_000 / 512;
    private static final int MOST_CELLS = 7_300_000 / 512;

    private final Set<Object> met = Collections.newSetFromMap(new IdentityHashMap<>());
    private int cells = 0;

    private RoomTest() {
    }

    public static void main(String[] args) throws IllegalAccessException {
        DunningHouse house = new DunningHouse();
        RoomTest first = new RoomTest();
        first.walk(house);
        System.out.println("RoomTest: " + first.met.size() + " objects, " + first.cells + " fields and elements");
        Check.same("too many objects", first.met.size() > MOST_OBJECTS, false);
        Check.same("too many fields and elements", first.cells > MOST_CELLS, false);
        Check.tell(house, "step 1 0 1; hold 1; debtor 9999 1; invoice 0 50 0;");
        for (int i = 0; i < 60; i++) {
            house.bill(0, 9, 9);
            house.asks(0, 9);
            house.next(0);
            house.would(0, 9);
        }
        RoomTest second = new RoomTest();
        second.walk(house);
        Check.same("objects behind many calls", second.met.size(), first.met.size());
        Check.same("fields and elements behind many calls", second.cells, first.cells);
        Check.finish("RoomTest");
    }

    private void walk(Object object) throws IllegalAccessException {
        if (object == null || !met.add(object)) {
            return;
        }
        Class<?> type = object.getClass();
        if (type.isArray()) {
            cells += Array.getLength(object);
            for (int i = 0; !type.getComponentType().isPrimitive() && i < Array.getLength(object); i++) {
                walk(Array.get(object, i));
            }
            return;
        }
        for (Field field : type.getDeclaredFields()) {
            if (!Modifier.isStatic(field.getModifiers())) {
                cells++;
                field.setAccessible(true);
                if (!field.getType().isPrimitive()) {
                    walk(field.get(object));
                }
            }
        }
    }
}
