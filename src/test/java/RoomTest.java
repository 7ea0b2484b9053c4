import java.lang.reflect.Array;
import java.lang.reflect.Field;
import java.lang.reflect.Modifier;
import java.util.ArrayDeque;
import java.util.Collections;
import java.util.IdentityHashMap;
import java.util.Set;

/** How much room an object takes: all of it is made by the constructor, and nothing is kept or let go later. */
public final class RoomTest {
    /** A tenth of the room that all calls of a run live in. */
    private static final int MOST_OBJECTS = 60000, MOST_VALUES = 730000;

    private final Set<Object> objects = Collections.newSetFromMap(new IdentityHashMap<>());
    private final ArrayDeque<Object> open = new ArrayDeque<>();
    private int values = 0;

    private RoomTest(Object root) throws IllegalAccessException {
        reach(root);
        while (!open.isEmpty()) look(open.remove());
    }

    public static void main(String[] args) throws IllegalAccessException {
        StubbornBridges x = new StubbornBridges();
        RoomTest before = new RoomTest(x);
        Checks.due("few objects and arrays: " + before.objects.size(), before.objects.size() <= MOST_OBJECTS ? 1 : 0, 1);
        Checks.due("few fields and elements: " + before.values, before.values <= MOST_VALUES ? 1 : 0, 1);
        useAll(x);
        RoomTest after = new RoomTest(x);
        Checks.due("as many objects and arrays as before", after.objects.size(), before.objects.size());
        Checks.due("the same ones", before.objects.containsAll(after.objects) ? 1 : 0, 1);
        Checks.due("as many fields and elements as before", after.values, before.values);
        Checks.finish();
    }

    private void reach(Object object) {
        if (object != null && objects.add(object)) open.add(object);
    }

    private void look(Object object) throws IllegalAccessException {
        if (object.getClass().isArray()) {
            int length = Array.getLength(object);
            values += length;
            boolean holdsObjects = !object.getClass().getComponentType().isPrimitive();
            for (int i = 0; holdsObjects && i < length; i++) reach(Array.get(object, i));
            return;
        }
        for (Field field : object.getClass().getDeclaredFields()) {
            if (Modifier.isStatic(field.getModifiers())) continue;
            values++;
            field.setAccessible(true);
            if (!field.getType().isPrimitive()) reach(field.get(object));
        }
    }

    /** Every method, with as many bridges, parcels, slices, changes and characters as there can be. */
    private static void useAll(StubbornBridges x) {
        for (int i = 0; i < 17; i++) x.bridge(i % 8, (i + 1) % 8, 16, 1, 1000);
        for (int i = 0; i < 56; i++) x.route(i % 8, (i % 8 + i / 8 + 1) % 8, i % 8);
        for (int i = 0; i < 41; i++) x.send(i % 8, (i + 3) % 8, 4000, i, 41);
        for (int i = 0; i < 10; i++) x.forge(i, 0, 1500, 0, i);
        x.node(0, 1, 500, 20000);
        x.mend(0, 24, 7);
        for (int i = 0; i < 2; i++) x.save(i);
        for (int i = 0; i < 10; i++) x.ticks(1 + i);
        for (int i = 0; i < 3; i++) x.undo();
        for (int i = 0; i < 2; i++) x.restore(i);
        for (int i = 0; i < 300; i++) x.resend(39);
        x.doneIn(39);
        x.stateIn(38, 500);
        for (int to = 1; to < 8; to++) x.leastRoom(0, to);
        x.slices(0, 7, 4000);
        x.time(0, 7, 4000);
        Checks.type(x, "t1;".repeat(26) + "r0");
        x.fault();
        x.carryOut();
        x.wipe();
        Checks.everything(x);
    }
}
