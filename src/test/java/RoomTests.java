import com.sun.management.ThreadMXBean;
import java.lang.management.ManagementFactory;
import java.lang.reflect.Array;
import java.lang.reflect.Field;
import java.lang.reflect.Modifier;
import java.util.ArrayDeque;
import java.util.Collections;
import java.util.IdentityHashMap;
import java.util.Set;

/** All calls of a run live in one room: counts what an object holds, and what its calls make beside it. */
public final class RoomTests {
    private static final long ROOM_OBJECTS = 600_000;
    private static final long ROOM_ELEMENTS = 7_300_000;
    private static final int CALLS = 512;
    private static final ThreadMXBean THREADS = (ThreadMXBean) ManagementFactory.getThreadMXBean();

    public static void main(String[] args) throws IllegalAccessException {
        MixElection fresh = new MixElection(999959, 10, 5, 5);
        countHeld(fresh);
        long objects = heldObjects;
        long elements = heldElements;
        System.out.println("an object holds " + objects + " objects and arrays, " + elements + " fields and elements");
        // Even were each of the 512 calls to make an object anew, all of them would fit.
        Due.yes("objects fit", objects * CALLS < ROOM_OBJECTS / 2);
        Due.yes("elements fit", elements * CALLS < ROOM_ELEMENTS / 2);
        dearestRun(fresh);
        countHeld(fresh);
        Due.same("objects behind a whole run", heldObjects, objects);
        Due.same("elements behind a whole run", heldElements, elements);
        callsMakeNothing();
        Due.end("RoomTests");
    }

    private static long heldObjects;
    private static long heldElements;

    private static void countHeld(MixElection x) throws IllegalAccessException {
        heldObjects = 0;
        heldElements = 0;
        Set<Object> seen = Collections.newSetFromMap(new IdentityHashMap<>());
        ArrayDeque<Object> open = new ArrayDeque<>();
        open.add(x);
        while (!open.isEmpty()) {
            Object object = open.poll();
            if (seen.add(object)) {
                heldObjects++;
                addParts(object, open);
            }
        }
    }

    private static void addParts(Object object, ArrayDeque<Object> open) throws IllegalAccessException {
        if (object.getClass().isArray()) {
            heldElements += Array.getLength(object);
            for (int i = 0; !object.getClass().getComponentType().isPrimitive() && i < Array.getLength(object); i++) {
                open.add(Array.get(object, i));
            }
            return;
        }
        for (Field field : object.getClass().getDeclaredFields()) {
            if (!Modifier.isStatic(field.getModifiers())) {
                heldElements++;
                field.setAccessible(true);
                if (!field.getType().isPrimitive()) {
                    open.add(field.get(object));
                }
            }
        }
    }

    private static void stage(MixElection x) {
        for (int i = 0; i < 40; i++) {
            x.place(i, 39 - i, 499978 - i);
        }
    }

    /** 497 calls, the dearest among them, on as many ballots and as great numbers as there can be. */
    private static void dearestRun(MixElection x) {
        for (int i = 0; i < 5; i++) {
            x.secret(i, 499978 - i);
        }
        for (int v = 0; v < 40; v++) {
            x.voter();
        }
        x.key();
        for (int v = 0; v < 40; v++) {
            x.cast(v, v % 10, 499978 - v);
        }
        x.close();
        for (int m = 0; m < 2; m++) {
            stage(x);
            x.mix();
            for (int round = 0; round < 3; round++) {
                stage(x);
                x.shadow();
                x.coin(round % 2);
                x.about(15);
            }
        }
        for (int j = 1; j <= 5; j++) {
            x.share(j);
        }
        x.tally();
        for (int what = 0; what < 8; what++) {
            x.about(2 * what + 1);
            x.count(what);
            x.list(what, what, 0);
            x.shadowOf(what, 1);
            x.shown(what, 1);
            x.given(what, what);
            x.entry(what, 3);
            x.chain(what);
        }
    }

    private static void callsMakeNothing() {
        MixElection first = new MixElection(999959, 10, 5, 5);
        MixElection second = new MixElection(999959, 10, 5, 5);
        // The first run lets the machine load what it needs.
        dearestRun(first);
        THREADS.getCurrentThreadAllocatedBytes();
        long before = THREADS.getCurrentThreadAllocatedBytes();
        dearestRun(second);
        long made = THREADS.getCurrentThreadAllocatedBytes() - before;
        Due.same("stage of the dearest run", second.about(7), 3);
        // Room for what the machine may do by itself; a row of 40 made by one of its kinds of calls goes far above it.
        Due.yes("bytes made by the calls of the dearest run: " + made, made < 1024);
    }
}
