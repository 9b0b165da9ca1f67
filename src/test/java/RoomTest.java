import java.lang.management.ManagementFactory;
import java.lang.reflect.Array;
import java.lang.reflect.Field;
import java.lang.reflect.Modifier;
import java.util.ArrayDeque;
import java.util.Collections;
import java.util.IdentityHashMap;
import java.util.Set;
import java.util.function.IntConsumer;

/**
 * All calls of a run live in one room: what an object holds is small, and no call but tower(), which makes
 * the people of a text, makes anything.
 */
public final class RoomTest {
    private static final String PERSON = "person boy 9 1 99;";
    private static final String TEXT = "law 32 99;" + PERSON.repeat(7) + "stone 1 0;".repeat(4);
    private static final int CALLS = 400;
    /** What the measuring itself may make, over all calls. */
    private static final long SLACK = 4096;

    private static final Due due = new Due("RoomTest");
    private static int objects;
    private static int places;

    public static void main(String[] args) throws Exception {
        holdsLittle();
        rows();
        acts();
        foretold();
        asked();
        towerMakesPeopleAlone();
        due.end();
    }

    private static void holdsLittle() throws Exception {
        LeanTower x = Due.tower(TEXT);
        x.image(0);
        for (int i = 0; i < 30; i++) {
            x.halves(1);
        }
        measure(x);
        due.is("objects " + objects + " of one tower: 1000 towers have room", objects < 600 ? 1 : 0, 1);
        due.is("places " + places + " of one tower: 1000 towers have room", places < 7300 ? 1 : 0, 1);
    }

    private static void measure(Object root) throws Exception {
        Set<Object> seen = Collections.newSetFromMap(new IdentityHashMap<>());
        ArrayDeque<Object> open = new ArrayDeque<>();
        open.add(root);
        objects = 0;
        places = 0;
        while (!open.isEmpty()) {
            Object one = open.remove();
            if (!seen.add(one)) {
                continue;
            }
            objects++;
            if (one.getClass().isArray()) {
                measureArray(one, open);
            } else {
                measureFields(one, open);
            }
        }
    }

    private static void measureArray(Object array, ArrayDeque<Object> open) {
        places += Array.getLength(array);
        if (array instanceof Object[] many) {
            for (Object part : many) {
                if (part != null) {
                    open.add(part);
                }
            }
        }
    }

    private static void measureFields(Object one, ArrayDeque<Object> open) throws Exception {
        for (Class<?> c = one.getClass(); c != Object.class; c = c.getSuperclass()) {
            for (Field f : c.getDeclaredFields()) {
                if (!Modifier.isStatic(f.getModifiers())) {
                    places++;
                    f.setAccessible(true);
                    if (!f.getType().isPrimitive() && f.get(one) != null) {
                        open.add(f.get(one));
                    }
                }
            }
        }
    }

    private static long made() {
        return ((com.sun.management.ThreadMXBean) ManagementFactory.getThreadMXBean()).getCurrentThreadAllocatedBytes();
    }

    /** What the calls make, in bytes; a first round, not counted, loads what the machine itself needs. */
    private static long madeBy(IntConsumer call) {
        for (int i = 0; i < CALLS; i++) {
            call.accept(i);
        }
        made();
        long ahead = made();
        for (int i = 0; i < CALLS; i++) {
            call.accept(i);
        }
        return made() - ahead;
    }

    private static void makesNothing(String name, IntConsumer call) {
        long bytes = madeBy(call);
        due.is(name + " makes " + bytes + " bytes: nothing", bytes <= SLACK ? 1 : 0, 1);
    }

    private static void rows() {
        LeanTower x = Due.tower(TEXT);
        makesNothing("row", i -> x.row(0, 2, 40));
        makesNothing("set", i -> x.set(0, i % 40, i));
        makesNothing("copy", i -> x.copy(0, 0, 0, 1, 39));
        makesNothing("drop", i -> {
            x.row(1, 0, 9);
            x.drop(1);
        });
        makesNothing("feed", i -> x.feed(i, 8));
        makesNothing("tower with a fault", i -> x.tower());
        makesNothing("fault", i -> x.fault());
    }

    private static void acts() {
        LeanTower x = Due.tower(TEXT);
        makesNothing("go", i -> x.go(0, i % 2));
        makesNothing("hang", i -> x.hang(0, i % 4));
        makesNothing("halves", i -> x.halves(4));
        makesNothing("year", i -> x.year());
        makesNothing("undo", i -> {
            x.go(0, 1);
            x.undo();
        });
        makesNothing("person", i -> x.person(0, i % 5));
        makesNothing("lean", i -> x.lean(i % 5));
    }

    private static void foretold() {
        LeanTower x = Due.tower(TEXT);
        x.row(0, 0, 7);
        x.row(1, 0, 5);
        for (int i = 0; i < 5; i++) {
            x.set(1, i, i + 1);
        }
        makesNothing("worst", i -> x.worst(i % 2));
        makesNothing("most", i -> x.most());
        makesNothing("two", i -> x.two(0, 1, i % 2));
        makesNothing("stones", i -> x.stones(-1));
        makesNothing("marks", i -> x.marks(0, 0, 0, i % 9));
        makesNothing("rescue", i -> x.rescue(i % 8));
        makesNothing("fall", i -> x.fall());
        makesNothing("bells", i -> x.bells(1, 5, -1));
        makesNothing("image", i -> x.image(i % 2));
        makesNothing("restore", i -> x.restore(i % 2));
    }

    private static void asked() {
        LeanTower x = Due.tower(TEXT);
        makesNothing("kind", i -> x.kind(0));
        makesNothing("as", i -> x.as(0, i % 6));
        makesNothing("ask", i -> x.ask(0, i % 2));
        makesNothing("trace", i -> x.trace(i % 20));
        makesNothing("count", i -> x.count(i % 7));
        makesNothing("status", i -> x.status());
    }

    /** Seven people of three numbers and a head have room in 7 times 64 bytes. */
    private static void towerMakesPeopleAlone() {
        LeanTower x = new LeanTower();
        long bytes = madeBy(i -> Due.read(x, TEXT));
        due.is("tower makes " + bytes + " bytes", bytes > 0 && bytes <= SLACK + CALLS * 7 * 64 ? 1 : 0, 1);
        due.is("tower()", Due.read(x, TEXT), 7);
    }
}
