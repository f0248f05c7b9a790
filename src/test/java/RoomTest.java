import java.lang.reflect.Array;
import java.lang.reflect.Field;
import java.lang.reflect.Modifier;
import java.util.ArrayDeque;
import java.util.Collections;
import java.util.IdentityHashMap;
import java.util.Set;

/**
 * All calls of one run live in one room of some 600,000 objects and arrays, 7.3 million fields and
 * elements: an object takes little of it, and no call takes more (RulesTest sees that none makes any).
 */
public final class RoomTest {
    private static final Due DUE = new Due("RoomTest");

    public static void main(String[] args) throws Exception {
        RuinHouse x = new RuinHouse();
        long[] before = count(x);
        DUE.yes(before[0] + " objects and arrays", before[0] <= 100);
        DUE.yes(before[1] + " fields and elements", before[1] <= 10000);
        for (int size = 0; size <= 20; size++) x.set(0, size, size < 13 ? 48 : 47);
        x.set(1, 0, 951);
        x.set(1, 20, 49);
        for (int k = 0; k < 40; k++) {
            x.ruin(100, 9, 0, 40);
            x.ever(60, 1);
            x.worth(60, 20, 0, 999, 6);
            x.two(0x66CC, 0, 0, 5, k % 2 == 0);
            x.just(40, 0, 12, 250000);
            x.layer(0, 3, 9, true, 2);
            x.part(0, 40, true, 3);
        }
        long[] behind = count(x);
        DUE.same("objects and arrays behind many calls", behind[0], before[0]);
        DUE.same("fields and elements behind many calls", behind[1], before[1]);
        DUE.end();
    }

    /** Objects and arrays that can be reached, and the fields and elements in them. */
    private static long[] count(Object top) throws IllegalAccessException {
        Set<Object> seen = Collections.newSetFromMap(new IdentityHashMap<>());
        ArrayDeque<Object> next = new ArrayDeque<>();
        next.add(top);
        long elements = 0;
        while (!next.isEmpty()) {
            Object thing = next.remove();
            if (!seen.add(thing)) continue;
            Class<?> c = thing.getClass();
            if (c.isArray()) {
                elements += Array.getLength(thing);
                for (int i = 0; i < Array.getLength(thing) && !c.getComponentType().isPrimitive(); i++) {
                    next.add(Array.get(thing, i));
                }
                continue;
            }
            for (Field f : c.getDeclaredFields()) {
                if (Modifier.isStatic(f.getModifiers())) continue;
                elements++;
                f.setAccessible(true);
                if (!f.getType().isPrimitive()) next.add(f.get(thing));
            }
        }
        return new long[] {seen.size(), elements};
    }
}
