import java.lang.management.ManagementFactory;
import java.lang.reflect.Array;
import java.lang.reflect.Field;
import java.lang.reflect.Modifier;
import java.util.Collections;
import java.util.IdentityHashMap;
import java.util.Set;

/** All calls of a run live in one room, so an object is small and its calls make nothing. */
final class RoomTest {
    private static final int MOST_OBJECTS = 100, MOST_CELLS = 2000;
    /** What reading the counter itself may take, and far less than one object a call would. */
    private static final int MOST_BYTES = 4096;
    private static final String TEXT = "d12,3;m1;m2;m1;m0;w10,2,3;g14,1,2;t9,2,4;s20,3,1;e16,1,9;w7,0,2;";
    private static final Check check = new Check();

    private final Set<Object> seen = Collections.newSetFromMap(new IdentityHashMap<>());
    private int cells;

    public static void main(String[] args) throws IllegalAccessException {
        isSmall();
        makesNothing();
        check.end();
    }

    private static void isSmall() throws IllegalAccessException {
        RoomTest made = countOf(new MatNations());
        check.holds(made.seen.size() + " objects and arrays", made.seen.size() < MOST_OBJECTS);
        check.holds(made.cells + " fields and elements", made.cells < MOST_CELLS);
        MatNations used = new MatNations();
        Check.read(used, TEXT);
        callAll(used);
        RoomTest after = countOf(used);
        check.due("objects and arrays behind all calls", after.seen.size(), made.seen.size());
        check.due("fields and elements behind all calls", after.cells, made.cells);
    }

    /** The counter of the machine: what calls make and forget is found, too. */
    private static void makesNothing() {
        if (!(ManagementFactory.getThreadMXBean() instanceof com.sun.management.ThreadMXBean counter)) {
            return;
        }
        MatNations x = new MatNations();
        Check.read(x, TEXT);
        long id = Thread.currentThread().getId();
        int rounds = 200;
        for (int i = 0; i < rounds; i++) {
            callAll(x);
        }
        long before = counter.getThreadAllocatedBytes(id);
        for (int i = 0; i < rounds; i++) {
            callAll(x);
        }
        long taken = counter.getThreadAllocatedBytes(id) - before;
        check.holds(taken + " bytes taken by " + rounds + " rounds of all calls", taken < MOST_BYTES);
    }

    private static void callAll(MatNations x) {
        x.row(0, 2, 40);
        x.row(0, 2, -1);
        x.set(0, 0, 5);
        x.copy(0, 0, 0, 1, 4);
        x.who(0, 0);
        for (int what = 0; what < 4; what++) {
            x.fits(1, 0, 0, what);
            x.comer(1, what);
            x.mat(1, what);
        }
        x.drop(0);
        for (int i = 0; i < TEXT.length(); i++) {
            x.feed(TEXT.charAt(i));
        }
        x.hotel();
        x.hotel();
        x.fault();
        callActs(x);
        callForetold(x);
        for (int comer = 0; comer < 6; comer++) {
            x.kind(comer);
            x.as(comer, 1);
            x.ask(comer, 0);
            x.ask(comer, 1);
        }
        for (int i = 0; i < 8; i++) {
            x.trace(i);
            x.count(i);
        }
        x.status();
    }

    private static void callActs(MatNations x) {
        for (int comer = 0; comer < 6; comer++) {
            x.come(comer);
        }
        x.beat(1);
        x.change(0);
        x.rain(3);
        x.undo();
        x.image(0);
        x.restore(0);
    }

    private static void callForetold(MatNations x) {
        x.soil(0, 1);
        x.atOne(0, 1);
        x.leaves(1, 0);
        x.carries(1);
        x.clean();
        x.order(-1);
        x.laying(-1);
        x.beating(31, 20, 1);
        x.pacts(0);
        x.pacts(1);
        x.could(0, 1);
        x.absent(20, 3, 0);
        x.drawn(60, 9, 0);
    }

    private static RoomTest countOf(MatNations x) throws IllegalAccessException {
        RoomTest counted = new RoomTest();
        counted.count(x);
        return counted;
    }

    private void count(Object one) throws IllegalAccessException {
        if (one == null || !seen.add(one)) {
            return;
        }
        Class<?> type = one.getClass();
        if (type.isArray()) {
            cells += Array.getLength(one);
            for (int i = 0; i < Array.getLength(one) && !type.getComponentType().isPrimitive(); i++) {
                count(Array.get(one, i));
            }
            return;
        }
        for (Field field : type.getDeclaredFields()) {
            if (!Modifier.isStatic(field.getModifiers())) {
                cells++;
                countHeld(field, one);
            }
        }
    }

    private void countHeld(Field field, Object one) throws IllegalAccessException {
        if (!field.getType().isPrimitive()) {
            field.setAccessible(true);
            count(field.get(one));
        }
    }
}
