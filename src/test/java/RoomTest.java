import java.lang.reflect.Array;
import java.lang.reflect.Field;
import java.lang.reflect.Modifier;
import java.math.BigInteger;
import java.util.ArrayDeque;
import java.util.Collections;
import java.util.Deque;
import java.util.IdentityHashMap;
import java.util.Set;

/**
 * The room of a run: some 600,000 objects and arrays, 7.3 million fields and elements. An object's
 * own room is counted, and calls may not make it grow; its rows for cones are enough for the walls of
 * points by lot.
 */
public final class RoomTest {
    private static final int CALLS = 512;
    private static final int MOST_OBJECTS = 600_000;
    private static final int MOST_CELLS = 7_300_000;

    private int objects = 0;
    private int cells = 0;

    private RoomTest(Object root) throws IllegalAccessException {
        Set<Object> seen = Collections.newSetFromMap(new IdentityHashMap<>());
        Deque<Object> open = new ArrayDeque<>();
        open.add(root);
        seen.add(root);
        while (!open.isEmpty()) {
            Object next = open.remove();
            objects++;
            if (next.getClass().isArray()) {
                visitArray(next, seen, open);
            } else if (next instanceof StringBuilder) {
                objects++;
                cells += 2 + ((StringBuilder) next).capacity();
            } else {
                visitFields(next, seen, open);
            }
        }
    }

    private void visitArray(Object array, Set<Object> seen, Deque<Object> open) {
        cells += Array.getLength(array);
        if (!array.getClass().getComponentType().isPrimitive()) {
            for (int k = 0; k < Array.getLength(array); k++) {
                Object element = Array.get(array, k);
                if (element != null && seen.add(element)) {
                    open.add(element);
                }
            }
        }
    }

    private void visitFields(Object object, Set<Object> seen, Deque<Object> open)
            throws IllegalAccessException {
        for (Field field : object.getClass().getDeclaredFields()) {
            if (Modifier.isStatic(field.getModifiers())) {
                continue;
            }
            cells++;
            field.setAccessible(true);
            Object value = field.get(object);
            if (!field.getType().isPrimitive() && value != null && seen.add(value)) {
                open.add(value);
            }
        }
    }

    /** Eight points over GF(29) by lot, with the most cones of many rounds. */
    private static GroebnerFan manyCones() {
        GroebnerFan best = new GroebnerFan();
        long lot = 1;
        for (int round = 0; round < 40_000 && best.coneCount() < 12; round++) {
            GroebnerFan fan = Fans.of(29);
            while (fan.pointCount() < 8) {
                lot = lot * 6364136223846793005L + 1442695040888963407L;
                fan.addPoint((int) (lot >>> 33) % 29, (int) (lot >>> 45) % 29);
            }
            dueSmallWalls(fan);
            best = fan.coneCount() > best.coneCount() ? fan : best;
        }
        return best;
    }

    /** The class has rows for 22 cones, as 21 fractions are made of numbers that add up to 8 or less. */
    private static void dueSmallWalls(GroebnerFan fan) {
        for (int cone = 0; cone + 1 < fan.coneCount(); cone++) {
            int sum = fan.wallNumerator(cone) + fan.wallDenominator(cone);
            Check.due("numbers of a wall that add up to 8 or less", sum <= 8 ? 1 : 0, 1);
        }
    }

    private static int fractionsUpTo(int sum) {
        int count = 0;
        for (int top = 1; top < sum; top++) {
            for (int bottom = 1; top + bottom <= sum; bottom++) {
                count += BigInteger.valueOf(top).gcd(BigInteger.valueOf(bottom)).intValue() == 1 ? 1 : 0;
            }
        }
        return count;
    }

    private static void useAll(GroebnerFan fan) {
        fan.appendInput('1');
        fan.parsePoints();
        fan.translate(1, 1);
        fan.universalSize();
        fan.columnHeight(3, 5, 1, 1);
        fan.loadBasisPolynomial(1, 1);
        fan.storePolynomial(0);
        fan.loadPolynomial(0);
        fan.newArray(1, 8);
        fan.interpolate(0, 1);
        fan.reduceToNormalForm(1);
        fan.format(0, 0);
        fan.saveSnapshot();
        fan.restoreSnapshot();
        fan.removePoint(0);
        fan.addPoint(0, 0);
        fan.mirroredCone(0);
    }

    public static void main(String[] args) throws IllegalAccessException {
        Check.due("walls that can be", fractionsUpTo(8), 21);
        GroebnerFan fan = manyCones();
        int most = fan.coneCount();
        useAll(fan);
        RoomTest first = new RoomTest(fan);
        System.out.println("  an object with up to " + most + " cones: " + first.objects + " objects, "
                + first.cells + " fields and elements");
        Check.due("room for 512 such objects", (long) CALLS * first.objects <= MOST_OBJECTS ? 1 : 0, 1);
        Check.due("room for their cells", (long) CALLS * first.cells <= MOST_CELLS ? 1 : 0, 1);
        long bytes = allocatedBy(fan);
        System.out.println("  30 rounds more of 17 calls make " + bytes + " bytes of objects");
        Check.due("calls make no objects that add up", bytes < 200_000 ? 1 : 0, 1);
        Check.finish("RoomTest");
    }

    private static long allocatedBy(GroebnerFan fan) {
        com.sun.management.ThreadMXBean counter = (com.sun.management.ThreadMXBean)
                java.lang.management.ManagementFactory.getThreadMXBean();
        long before = counter.getThreadAllocatedBytes(Thread.currentThread().getId());
        for (int round = 0; round < 30; round++) {
            useAll(fan);
        }
        return counter.getThreadAllocatedBytes(Thread.currentThread().getId()) - before;
    }
}
