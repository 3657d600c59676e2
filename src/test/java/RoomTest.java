import java.lang.management.ManagementFactory;
import java.lang.reflect.Array;
import java.lang.reflect.Field;
import java.lang.reflect.Modifier;
import java.util.ArrayDeque;
import java.util.Collections;
import java.util.Deque;
import java.util.IdentityHashMap;
import java.util.List;
import java.util.Set;

/** All calls of one run live in one room: what an object takes of it, and that calls take no more. */
public final class RoomTest {
    private static final int ROOM_OF_OBJECTS = 600_000;
    private static final int ROOM_OF_PARTS = 7_300_000;
    /** Far more objects of the class than one run is thought to make. */
    private static final int OBJECTS_IN_A_RUN = 1_000;

    private int objects;
    private int parts;

    public static void main(String[] args) throws IllegalAccessException {
        RoomTest atFirst = new RoomTest();
        atFirst.measure(new LastWord());
        least("objects and arrays of " + OBJECTS_IN_A_RUN, ROOM_OF_OBJECTS, OBJECTS_IN_A_RUN * atFirst.objects);
        least("fields and elements of " + OBJECTS_IN_A_RUN, ROOM_OF_PARTS, OBJECTS_IN_A_RUN * atFirst.parts);

        LastWord used = States.full();
        everyCall(used, Calls.arguments(6, 0, 6, 0));
        RoomTest atLast = new RoomTest();
        atLast.measure(used);
        Check.due("objects and arrays behind many calls", atFirst.objects, atLast.objects);
        Check.due("fields and elements behind many calls", atFirst.parts, atLast.parts);
        callsMakeNothing();
        Check.end();
    }

    private static void least(String what, int most, int seen) {
        Check.due(what + ": " + seen + " are more than " + most, 0, seen > most ? 1 : 0);
    }

    private void measure(LastWord x) throws IllegalAccessException {
        Set<Object> seen = Collections.newSetFromMap(new IdentityHashMap<>());
        Deque<Object> left = new ArrayDeque<>();
        left.add(x);
        while (!left.isEmpty()) {
            Object next = left.remove();
            if (seen.add(next)) {
                objects++;
                if (next.getClass().isArray()) {
                    elements(next, left);
                } else {
                    fields(next, left);
                }
            }
        }
    }

    private void elements(Object array, Deque<Object> left) {
        parts += Array.getLength(array);
        if (!array.getClass().getComponentType().isPrimitive()) {
            for (Object element : (Object[]) array) {
                left.add(element);
            }
        }
    }

    private void fields(Object object, Deque<Object> left) throws IllegalAccessException {
        for (Field field : object.getClass().getDeclaredFields()) {
            if (Modifier.isStatic(field.getModifiers())) {
                continue;
            }
            parts++;
            if (!field.getType().isPrimitive()) {
                field.setAccessible(true);
                left.add(field.get(object));
            }
        }
    }

    private static void everyCall(LastWord x, List<Calls.Argument> arguments) {
        for (int i = 0; i < arguments.size(); i++) {
            Calls.Argument argument = arguments.get(i);
            argument.call().on(x, argument.least());
            argument.call().on(x, argument.greatest());
        }
        x.day();
        x.undo();
        x.most();
        x.trace();
        x.forget();
        x.clear();
        Check.type(x, States.SIX);
        x.paper();
    }

    /** The JVM's own count of bytes made; the least of several tries, since it makes things for itself at times. */
    private static void callsMakeNothing() {
        if (!(ManagementFactory.getThreadMXBean() instanceof com.sun.management.ThreadMXBean threads)
            || !threads.isThreadAllocatedMemorySupported()) {
            return;
        }
        List<Calls.Argument> arguments = Calls.arguments(6, 0, 6, 0);
        long fewest = Long.MAX_VALUE;
        for (int tries = 0; tries < 10; tries++) {
            LastWord x = States.full();
            long before = threads.getCurrentThreadAllocatedBytes();
            everyCall(x, arguments);
            fewest = Math.min(fewest, threads.getCurrentThreadAllocatedBytes() - before);
        }
        Check.due("bytes that calls make", 0, fewest);
    }
}
