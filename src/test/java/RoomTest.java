import java.lang.reflect.Array;
import java.lang.reflect.Field;
import java.lang.reflect.Modifier;
import java.util.ArrayDeque;
import java.util.Collections;
import java.util.Deque;
import java.util.IdentityHashMap;
import java.util.Set;

/** What a house holds at its fullest: nothing is ever let go, so this is all that a run of calls makes. */
public final class RoomTest {
    private static final Check check = new Check("RoomTest");
    private static long fields;

    public static void main(String[] args) throws IllegalAccessException {
        HandleHouse house = check.fresh("the room that all calls of a run live in");
        int objects = objects(house);
        check.due("objects of a new house", objects < 200, true);
        check.due("their fields and elements", fields < 60000, true);
        int row = check.make(6, 0, 0, 100, check.make(20, 17, 0, 0));
        int loop = check.make(18, 0, check.type(0), 0, -1, row, check.constant(1, 1), -1);
        check.due("rows until it is FULL", check.run(loop, 10000), 4);
        check.due("1000", house.told(4), 1000);
        check.fillTypes(300);
        check.fillHandles(500);
        for (int i = 0; i < 150; i++) {
            house.end(20);
        }
        objects = objects(house);
        check.due("objects of a full house", objects < 5000, true);
        check.due("their fields and elements", fields < 400000, true);
        for (int i = 0; i < 100; i++) {
            check.run(loop, 10000);
            house.read();
            house.make(3, 0, 5, 0);
        }
        check.due("calls on a full house make no more", objects(house), objects);
        check.end();
    }

    /** How many objects and arrays can be reached; their fields and elements are counted, too. */
    private static int objects(Object start) throws IllegalAccessException {
        Set<Object> seen = Collections.newSetFromMap(new IdentityHashMap<>());
        Deque<Object> open = new ArrayDeque<>();
        fields = 0;
        seen.add(start);
        open.add(start);
        while (!open.isEmpty()) {
            Object one = open.remove();
            if (one.getClass().isArray()) {
                fields += Array.getLength(one);
                for (int i = 0; !one.getClass().getComponentType().isPrimitive() && i < Array.getLength(one); i++) {
                    reach(Array.get(one, i), seen, open);
                }
                continue;
            }
            for (Field field : one.getClass().getDeclaredFields()) {
                if (!Modifier.isStatic(field.getModifiers())) {
                    fields++;
                    field.setAccessible(true);
                    if (!field.getType().isPrimitive()) {
                        reach(field.get(one), seen, open);
                    }
                }
            }
        }
        return seen.size();
    }

    private static void reach(Object one, Set<Object> seen, Deque<Object> open) {
        if (one != null && seen.add(one)) {
            open.add(one);
        }
    }
}
