import java.lang.reflect.Array;
import java.lang.reflect.Field;
import java.lang.reflect.Modifier;
import java.util.ArrayDeque;
import java.util.Collections;
import java.util.Deque;
import java.util.IdentityHashMap;
import java.util.Set;

/** The room that an object takes: small when it is made, and no greater after any call. */
public final class RoomTest {
    // A run may make some 600,000 objects and 7.3 million fields and elements: thousands of books of this size.
    private static final int MOST_OBJECTS = 60, MOST_ELEMENTS = 2000;

    public static void main(String[] args) throws IllegalAccessException {
        ForfeitBook x = new ForfeitBook();
        Set<Object> made = allOf(x);
        Check.isTrue(made.size() + " objects and arrays, sixty at most", made.size() <= MOST_OBJECTS);
        int elements = 0;
        for (Object o : made) {
            elements += sizeOf(o);
        }
        Check.isTrue(elements + " fields and elements, 2000 at most", elements <= MOST_ELEMENTS);
        useAll(x);
        Set<Object> after = allOf(x);
        Check.due("objects and arrays after all calls", after.size(), made.size());
        made.retainAll(after);
        Check.due("of these the same as before", made.size(), after.size());
        Check.isTrue("two books share nothing", Collections.disjoint(after, allOf(new ForfeitBook())));
        Check.end();
    }

    private static Set<Object> identities() {
        return Collections.newSetFromMap(new IdentityHashMap<>());
    }

    /** The object itself and all that it holds. */
    private static Set<Object> allOf(Object start) throws IllegalAccessException {
        Set<Object> seen = identities();
        Deque<Object> left = new ArrayDeque<>();
        left.push(start);
        while (!left.isEmpty()) {
            Object o = left.pop();
            if (!seen.add(o) || o.getClass().isArray()) continue;
            for (Field f : o.getClass().getDeclaredFields()) {
                if (Modifier.isStatic(f.getModifiers()) || f.getType().isPrimitive()) continue;
                f.setAccessible(true);
                if (f.get(o) != null) left.push(f.get(o));
            }
        }
        return seen;
    }

    private static int sizeOf(Object o) {
        if (o.getClass().isArray()) return Array.getLength(o);
        int fields = 0;
        for (Field f : o.getClass().getDeclaredFields()) {
            if (!Modifier.isStatic(f.getModifiers())) fields++;
        }
        return fields;
    }

    /** As many of all as there can be, and then each call once. */
    private static void useAll(ForfeitBook x) {
        Boundary.fillUp(x);
        String[] calls = {"lay 0 0 1", "copy 0 0 1 0 40", "acts 0 2", "on 0 1", "told 0 5", "mark 1 1", "worth 0 9",
            "mean 0", "deathTold 0 5", "moving 0 0", "blame 0 0", "inForce 1900", "forfeit 0 0 7", "value 0 0",
            "sure 1 1", "due 1", "unlike 1", "settle 1", "jury 0 1", "habit 0 1000 1900", "worstPlace 1000 1900",
            "shortfall 1000 1900", "taker 1 1", "takes 9 1000 1900", "otherwise 0 1 0", "freed 0 0 0", "shift 0 0 0 10",
            "leastChange 0 0", "asked", "upper", "lower", "count 2", "finding", "findings 1", "digest", "tear 0"};
        for (String call : calls) {
            String[] words = call.split(" ");
            int[] p = new int[words.length - 1];
            for (int i = 0; i < p.length; i++) {
                p[i] = Integer.parseInt(words[i + 1]);
            }
            Calls.make(x, words[0], p);
        }
    }
}
