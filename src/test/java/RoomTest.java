import java.lang.management.ManagementFactory;
import java.lang.reflect.Array;
import java.lang.reflect.Field;
import java.lang.reflect.Modifier;
import java.util.ArrayDeque;
import java.util.Collections;
import java.util.IdentityHashMap;
import java.util.Set;

/** One object is small, and its calls make nothing, but for the exceptions that they throw. */
public final class RoomTest {
    private static final int MOST_OBJECTS = 700;
    private static final int MOST_ELEMENTS = 25000;
    private static final Check CHECK = new Check();

    public static void main(String[] args) throws IllegalAccessException {
        DayTables x = dearest();
        long[] before = sizes(x);
        CHECK.due("objects of " + before[0], true, () -> before[0] <= MOST_OBJECTS);
        CHECK.due("fields and elements of " + before[1], true, () -> before[1] <= MOST_ELEMENTS);
        for (int round = 0; round < 3; round++) {
            useAll(x);
        }
        com.sun.management.ThreadMXBean bean = (com.sun.management.ThreadMXBean) ManagementFactory.getThreadMXBean();
        long start = bean.getCurrentThreadAllocatedBytes();
        for (int round = 0; round < 20; round++) {
            useAll(x);
        }
        long made = bean.getCurrentThreadAllocatedBytes() - start;
        CHECK.due("bytes made by calls: " + made, true, () -> made < 4096);
        long[] after = sizes(x);
        CHECK.due("objects kept", before[0], () -> after[0]);
        CHECK.due("elements kept", before[1], () -> after[1]);
        CHECK.end();
    }

    private static DayTables dearest() {
        DayTables x = Check.land("days 9;village 0 1 2 3 4 5 6 7 8;village 1 0 2 3 4 5 6 7 8;village 2 1 0 3 4 5 6 7 8;"
            + "village 3 1 2 0 4 5 6 7 8;village 4 1 2 3 0 5 6 7 8;village 5 1 2 3 4 0 6 7 8;feast 4;feast 7;chance 50",
            "road 0 1 1;road 1 2 2;road 2 3 3;road 3 4 4;road 4 5 5;road 5 0 1;road 0 3 2;road 1 4 3;road 2 5 4",
            "person 0 1;person 1 2;person 2 3;person 3 4;person 4 5;person 5 6;person 0 7;person 1 8",
            "fact 0 1;fact 1 2;fact 2 3;fact 3 4;fact 4 5;fact 5 6;fact 0 7;fact 1 8",
            "task 0 8;task 1 7;task 2 6 after 0;task 3 5;task 4 4 after 1;debt 0 1 5 in 0 made 1 due 2;debt 2 3 7 in 0 made 1 due 2");
        Check.law(x, "bar if (day + page + known < 9 or coins > 99 and not again) and not (village > 4 and printing < 20);"
            + "hush if feast and lived < 5;earn 9 if day > 3");
        return x;
    }

    private static void useAll(DayTables x) {
        x.tell(0, 0);
        x.dawns(3);
        for (int p = 0; p < 8; p++) {
            x.soonest(p, (p + 3) % 6, 8);
            x.first(p, (p + 3) % 6, 8);
            x.meeting(p, (p + 1) % 8, true);
            x.cone(p, 200);
            x.warned(p, 200);
            x.feasted(p, 60);
            x.plan(p, 31, true);
            x.knew(p, 3);
            x.netted(-1);
        }
        x.least(200);
        x.tables();
        x.image();
        x.undo();
        x.back();
    }

    private static long[] sizes(Object root) throws IllegalAccessException {
        Set<Object> seen = Collections.newSetFromMap(new IdentityHashMap<>());
        ArrayDeque<Object> open = new ArrayDeque<>();
        open.add(root);
        seen.add(root);
        long elements = 0;
        while (!open.isEmpty()) {
            Object o = open.remove();
            if (o.getClass().isArray()) {
                int length = Array.getLength(o);
                elements += length;
                for (int i = 0; i < length && !o.getClass().getComponentType().isPrimitive(); i++) {
                    reach(Array.get(o, i), seen, open);
                }
                continue;
            }
            for (Field f : o.getClass().getDeclaredFields()) {
                if (!Modifier.isStatic(f.getModifiers())) {
                    elements++;
                    f.setAccessible(true);
                    if (!f.getType().isPrimitive()) {
                        reach(f.get(o), seen, open);
                    }
                }
            }
        }
        return new long[] {seen.size(), elements};
    }

    private static void reach(Object o, Set<Object> seen, ArrayDeque<Object> open) {
        if (o != null && seen.add(o)) {
            open.add(o);
        }
    }
}
