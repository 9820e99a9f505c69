import java.lang.management.ManagementFactory;
import java.lang.reflect.Array;
import java.lang.reflect.Field;
import java.lang.reflect.Modifier;
import java.util.ArrayList;
import java.util.Collections;
import java.util.IdentityHashMap;
import java.util.List;
import java.util.Set;

/** All calls of a run live in one room: a new object takes little of it, and calls that answer take nothing. */
public final class RoomTest {
    private static final int MOST_OBJECTS = 100;
    private static final int MOST_CELLS = 20000;
    private static final int DESKS = 16;
    private static final int ROUNDS = 25;
    /** The Java machine may make something of its own now and then, but not with every round of calls. */
    private static final long MOST_BYTES = 8L * DESKS * ROUNDS;
    private static final Check check = new Check();
    private static int seen = 0;

    public static void main(String[] args) throws IllegalAccessException {
        newObject();
        calls();
        check.end("RoomTest");
    }

    private static void newObject() throws IllegalAccessException {
        Set<Object> found = Collections.newSetFromMap(new IdentityHashMap<>());
        List<Object> open = new ArrayList<>(List.of(new PlanetoidDesk()));
        int cells = 0;
        while (!open.isEmpty()) {
            Object next = open.remove(open.size() - 1);
            if (found.add(next)) {
                cells += next.getClass().isArray() ? Array.getLength(next) : openFields(next, open);
            }
        }
        check.due("objects and arrays few enough: " + found.size(), found.size() <= MOST_OBJECTS ? 1 : 0, 1);
        check.due("fields and elements few enough: " + cells, cells <= MOST_CELLS ? 1 : 0, 1);
    }

    private static int openFields(Object holder, List<Object> open) throws IllegalAccessException {
        int fields = 0;
        for (Field field : holder.getClass().getDeclaredFields()) {
            if (!Modifier.isStatic(field.getModifiers())) {
                fields++;
                field.setAccessible(true);
                if (!field.getType().isPrimitive()) {
                    open.add(field.get(holder));
                }
            }
        }
        return fields;
    }

    private static void calls() {
        Desk[] desks = new Desk[DESKS];
        for (int i = 0; i < DESKS; i++) {
            desks[i] = busyDesk();
            askAll(desks[i], i);
        }
        com.sun.management.ThreadMXBean bean = (com.sun.management.ThreadMXBean) ManagementFactory.getThreadMXBean();
        long thread = Thread.currentThread().getId();
        bean.getThreadAllocatedBytes(thread);
        long before = bean.getThreadAllocatedBytes(thread);
        for (int i = 0; i < DESKS * ROUNDS; i++) {
            askAll(desks[i % DESKS], i);
        }
        long made = bean.getThreadAllocatedBytes(thread) - before;
        check.due("bytes made by calls few enough: " + made, made <= MOST_BYTES ? 1 : 0, 1);
        check.due("answers were given", seen != 0 ? 1 : 0, 1);
    }

    private static Desk busyDesk() {
        Desk desk = new Desk();
        desk.observatory(9);
        for (int i = 0; i < 30; i++) {
            desk.plate(0, i);
            desk.dot(i, 100, i);
            desk.dot(i, 2000, i);
        }
        desk.body(0);
        desk.body(1);
        return desk;
    }

    private static void askAll(Desk desk, int i) {
        int dot = 2 + i % 58;
        seen += desk.orbits(0) + desk.orbitsAnew(0) + desk.orbit(0, 0, 0) + desk.spread(0, i) + desk.where(0, i, 1);
        seen += desk.candidates(0) + desk.chance(0, i, 60, true) + desk.chance(0, i, 2, false);
        seen += desk.families(i % 90) + desk.family(0, 5) + desk.turn(0, true) + desk.ofDot(dot, 1) + desk.ofBody(0, 4);
        seen += dot % 2 == 0 ? desk.link(0, dot) + desk.unlink(0, dot) : desk.shift(i % 9, 0);
    }
}
