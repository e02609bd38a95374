import com.sun.management.ThreadMXBean;
import java.lang.management.ManagementFactory;
import java.lang.reflect.Array;
import java.lang.reflect.Field;
import java.lang.reflect.Modifier;
import java.util.ArrayDeque;
import java.util.Collections;
import java.util.Deque;
import java.util.IdentityHashMap;
import java.util.Set;

/** All calls of one run live in one room: an object takes little of it when it is made, and its calls take no more. */
public final class RoomRuns {
    // A run may make a thousand of them, and most of the room (600,000 and 7,300,000) is still free.
    private static final int MOST_OBJECTS = 150;
    private static final int MOST_ELEMENTS = 2500;
    private static final String FULL_TEXT = "n20 15 1;n20 10 2;n20 5 4;n20 0 8;n20 20 16;n20 18 31;a0 4 1 9;a0 5 3 8;"
        + "a1 0 6 7;a1 5 9 9;a2 4 4 9;a2 0 9 5;a3 5 5 9;a3 1 9 9;a4 1 9 9;a4 0 1 1;m2;r9;w2;";
    private static final Checks CHECKS = new Checks();

    private int objects;
    private int elements;

    public static void main(String[] args) throws IllegalAccessException {
        GrazedNames x = new GrazedNames();
        RoomRuns made = of(x);
        CHECKS.holds(made.objects + " objects are few", made.objects <= MOST_OBJECTS);
        CHECKS.holds(made.elements + " fields and elements are few", made.elements <= MOST_ELEMENTS);
        callAll(x);
        RoomRuns used = of(x);
        CHECKS.due("objects behind many calls", used.objects, made.objects);
        CHECKS.due("fields and elements behind many calls", used.elements, made.elements);
        callsMakeNothing();
        CHECKS.end();
    }

    /** By the machine's own count of what a thread makes; each call was made once ahead, so all classes are loaded. */
    private static void callsMakeNothing() {
        if (!(ManagementFactory.getThreadMXBean() instanceof ThreadMXBean machine)
            || !machine.isThreadAllocatedMemorySupported()) {
            System.out.println("this machine does not count what a thread makes");
            return;
        }
        GrazedNames x = new GrazedNames();
        // Asked once ahead too, and subtracted behind: the test's own first steps make something.
        machine.getCurrentThreadAllocatedBytes();
        long before = machine.getCurrentThreadAllocatedBytes();
        callAll(x);
        long behind = machine.getCurrentThreadAllocatedBytes();
        CHECKS.due("bytes that calls made", behind - before, 0);
    }

    /** Every call, refused and not, with a full text; it makes nothing itself. */
    private static void callAll(GrazedNames x) {
        for (int i = 0; i < FULL_TEXT.length(); i++) {
            x.type(FULL_TEXT.charAt(i));
        }
        x.meadow();
        for (int n = -1; n <= 6; n++) {
            look(x, n);
        }
        for (int month = 0; month <= 12; month++) {
            x.sends(month % 6);
            x.acts(month % 10);
            x.keep(month % 3);
            x.month(month);
            x.calls(month % 6);
        }
        x.undo();
        x.back(0);
        x.forget();
        x.type('x');
        x.meadow();
        x.clear();
        x.meadow();
    }

    private static void look(GrazedNames x, int n) {
        x.saw(1 << Math.max(n, 0));
        x.stray(n);
        x.found(3, n);
        x.can(n);
        x.ask();
        x.plan(5, n);
        x.plan(n, -1);
        x.law(n * 5);
        x.mean(n);
        x.home(n, 3, 2, 0);
        x.name(0, n);
        x.act(0, n);
        x.now(n);
        x.rate(n, 0);
        x.count(n);
        x.trace();
    }

    /** What is reached from an object, itself too; two rows of one object are two. */
    private static RoomRuns of(GrazedNames x) throws IllegalAccessException {
        RoomRuns room = new RoomRuns();
        Set<Object> known = Collections.newSetFromMap(new IdentityHashMap<>());
        Deque<Object> open = new ArrayDeque<>();
        open.add(x);
        while (!open.isEmpty()) {
            Object next = open.remove();
            if (known.add(next)) {
                room.objects++;
                room.take(next, open);
            }
        }
        return room;
    }

    private void take(Object x, Deque<Object> open) throws IllegalAccessException {
        if (x.getClass().isArray()) {
            int length = Array.getLength(x);
            elements += length;
            for (int i = 0; i < length && !x.getClass().getComponentType().isPrimitive(); i++) {
                reach(Array.get(x, i), open);
            }
            return;
        }
        for (Field f : x.getClass().getDeclaredFields()) {
            if (!Modifier.isStatic(f.getModifiers())) {
                elements++;
                f.setAccessible(true);
                if (!f.getType().isPrimitive()) {
                    reach(f.get(x), open);
                }
            }
        }
    }

    private static void reach(Object x, Deque<Object> open) {
        if (x != null) {
            open.add(x);
        }
    }
}
