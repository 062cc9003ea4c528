import java.lang.reflect.Array;
import java.lang.reflect.Field;
import java.lang.reflect.Modifier;
import java.util.IdentityHashMap;
import java.util.Map;

/** What a judge is made of: all its objects and arrays, their fields and elements; no call changes which they are. */
public final class RoomTest extends Sheet {
    // All calls of a run share a room of 600,000 objects and 7,300,000 fields and elements: some hundreds of judges.
    private static final int MOST_OBJECTS = 60;
    private static final int MOST_ELEMENTS = 14000;

    public static void main(String[] args) throws IllegalAccessException {
        RoomTest test = new RoomTest();
        Map<Object, Integer> before = test.found();
        test.check();
        Map<Object, Integer> behind = test.found();
        int elements = before.values().stream().mapToInt(Integer::intValue).sum();
        boolean isSmall = before.size() <= MOST_OBJECTS && elements <= MOST_ELEMENTS;
        boolean isSame = before.size() == behind.size() && before.keySet().containsAll(behind.keySet());
        System.out.println("a judge is " + before.size() + " objects and " + elements + " fields and elements"
            + (isSmall ? "" : ", which are too many") + (isSame ? "" : ", and calls change which they are"));
        System.exit(isSmall && isSame && test.wrong() == 0 ? 0 : 1);
    }

    private Map<Object, Integer> found() throws IllegalAccessException {
        Map<Object, Integer> found = new IdentityHashMap<>();
        walk(x, found);
        return found;
    }

    private static void walk(Object object, Map<Object, Integer> found) throws IllegalAccessException {
        if (object == null || found.containsKey(object)) {
            return;
        }
        if (object.getClass().isArray()) {
            found.put(object, Array.getLength(object));
            return;
        }
        found.put(object, 0);
        for (Field field : object.getClass().getDeclaredFields()) {
            if (!Modifier.isStatic(field.getModifiers())) {
                found.merge(object, 1, Integer::sum);
                field.setAccessible(true);
                if (!field.getType().isPrimitive()) {
                    walk(field.get(object), found);
                }
            }
        }
    }

    @Override
    void check() {
        good("A(x){B(x);while any{y=B(x);x=y.p;}}B(z){if z is nothing{return any;}z.q=z;}", 2);
        askAll();
        bad("A(", 1, 2);
        askAll();
        good("C(){}", 1);
        askAll();
        good("", 0);
        askAll();
    }

    private void askAll() {
        for (int k = -1; k < 3; k++) {
            x.mark(0, k, 0);
            x.mark(1, k, 0);
            x.mark(2, 0, k);
            x.use(k, 0);
            x.test(k, 0);
            x.run(k, 9);
            x.ran(k);
            x.tries(k);
            x.outer(0, k);
            x.price(k, 2);
            x.mend();
            x.mended(k);
            x.entry(k);
            x.count(k + 3);
        }
    }
}
