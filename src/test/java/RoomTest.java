import java.lang.management.ManagementFactory;
import java.lang.reflect.Array;
import java.lang.reflect.Field;
import java.lang.reflect.Modifier;
import java.util.IdentityHashMap;
import java.util.Map;

/** The room of a run: what an object is made of is counted, and calls must not make more. */
public final class RoomTest {
    private static final int MOST_OBJECTS = 600_000 / 20;
    private static final int MOST_ELEMENTS = 7_300_000 / 20;

    private final Map<Object, Boolean> seen = new IdentityHashMap<>();
    private long elements = 0;

    private void visit(Object x) throws Exception {
        if (x == null || seen.put(x, true) != null) {
            return;
        }
        if (x.getClass().isArray()) {
            elements += Array.getLength(x);
            for (int i = 0; !x.getClass().getComponentType().isPrimitive() && i < Array.getLength(x); i++) {
                visit(Array.get(x, i));
            }
            return;
        }
        for (Field f : x.getClass().getDeclaredFields()) {
            if (!Modifier.isStatic(f.getModifiers())) {
                elements++;
                f.setAccessible(true);
                if (!f.getType().isPrimitive()) {
                    visit(f.get(x));
                }
            }
        }
    }

    private static void callAll(TruthWalk x, int i) {
        int letter = 1 + i % 12;
        x.letters(0, 12);
        x.letters(1, 12);
        for (int k = 0; k < 20; k++) {
            x.clause(k % 2, 1 + (i + k) % 12, -1 - (i + 3 * k) % 12, 1 + (5 * k) % 12, 0);
            x.more(k % 2, letter);
        }
        x.drop(0);
        x.ask(0, letter, true);
        x.fix(0, letter);
        x.loose(0, letter);
        x.weight(0, letter, i % 8);
        x.count(0, i % 6);
        x.compile(0);
        x.compile(1);
        x.root(0);
        x.node(0, 2, 3);
        x.part(0, 5, 0);
        x.judge(0);
        x.bend(0, 5, 0, 0);
        x.judge(0);
        x.guilty();
        x.rows(0);
        x.says(0, i);
        x.sum(0);
        x.chance(0, letter, true);
        x.sure(0, letter);
        x.kth(0, i);
        x.rank(0, i);
        x.next(0, i);
        x.most(0, true);
        x.weigh(0, i);
        x.asked(0);
        x.less(true);
        x.join();
        x.lay(0, 0);
        x.row(0);
        x.copy(0, 0, 1);
        x.give(0);
        x.tear();
        x.status(-3);
    }

    public static void main(String[] args) throws Exception {
        Due.about("the room");
        TruthWalk x = new TruthWalk();
        RoomTest room = new RoomTest();
        room.visit(x);
        System.out.println("an object: " + room.seen.size() + " objects and arrays, " + room.elements + " elements");
        Due.holds("objects of one TruthWalk", room.seen.size() <= MOST_OBJECTS);
        Due.holds("elements of one TruthWalk", room.elements <= MOST_ELEMENTS);
        com.sun.management.ThreadMXBean bean =
            (com.sun.management.ThreadMXBean) ManagementFactory.getThreadMXBean();
        long thread = Thread.currentThread().getId();
        callAll(x, 0);
        long before = bean.getThreadAllocatedBytes(thread);
        for (int i = 0; i < 200; i++) {
            callAll(x, i);
        }
        long made = bean.getThreadAllocatedBytes(thread) - before;
        System.out.println("16,000 calls made " + made + " bytes");
        Due.holds("calls make nothing", made < 20_000);
        Due.end("RoomTest");
    }
}
