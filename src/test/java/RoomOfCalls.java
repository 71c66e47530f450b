import java.lang.management.ManagementFactory;
import java.lang.reflect.Array;
import java.lang.reflect.Field;
import java.lang.reflect.Modifier;
import java.util.ArrayDeque;
import java.util.Collections;
import java.util.Deque;
import java.util.IdentityHashMap;
import java.util.Set;

/** "An object is used for at most 512 calls": all of them, the dearest ones too, live in one room. */
public final class RoomOfCalls {
    private static final int CALLS = 512;
    // So many make what full() answers: 40 feed its three texts, 9 measure, cut and read them, 6 tell MERCHANTS, 30 FACTS.
    private static final int CALLS_OF_FULL = 85;
    private static final int ROOM_OBJECTS = 600000;
    private static final int ROOM_ELEMENTS = 7300000;
    // What the machine itself may make beside the calls.
    private static final long SPARE_BYTES = 100000;
    private static int objects;
    private static long elements;

    public static void main(String[] args) throws IllegalAccessException {
        aNewObjectIsSmall();
        callsMakeNothing();
        theLastCallIsAnsweredLikeTheFirst();
        Check.done();
    }

    private static SaltOffice full() {
        String towns = "";
        for (int i = 0; i < 5; i++) {
            towns += "town t" + (char) ('a' + i) + " at p" + i + " of " + i + " wants 90 price " + (20 + 9 * i) + " grain 900 cost 2;";
        }
        SaltOffice x = Check.office("road p0 p1 20;road p1 p2 40;road p2 p3 9;road p3 p4 70;"
            + "fort fa at p0 eats 90 store 300;fort fb at p3 eats 60 store 9;fort fc at p4 eats 0 store 0;"
            + "pan a at p1 makes" + Check.times(" 300", 12) + " serves 0 1 2 3 4;pan b at p2 makes" + Check.times(" 99", 12) + " serves 4 3;"
            + "pan c at p9 makes" + Check.times(" 0", 12) + " serves 0;" + towns,
            "rate 20 - need; class age > 3; class bought and sacks > 30; class days > 40; coin 9; most 300; tax 2; guard 30;",
            30000, 20000, 9000, 900, 90, 0);
        Check.reform(x, 1, "coin 4; most 900; class waiting > 99 or month = 5;");
        for (int i = 0; i < 10; i++) {
            x.weather(i % 2, i, 300 - 30 * i);
            x.forged(3 * i, 2 * i);
            x.dead(i % 5, 60 + i, i % 5 + 1);
        }
        return x;
    }

    private static void aNewObjectIsSmall() throws IllegalAccessException {
        count(new SaltOffice());
        Check.due("objects of a new object: " + objects, objects <= ROOM_OBJECTS / 100, true);
        Check.due("elements of a new object: " + elements, elements <= ROOM_ELEMENTS / 20, true);
    }

    /** Every object that can be reached, with its fields or elements. */
    private static void count(Object root) throws IllegalAccessException {
        Set<Object> seen = Collections.newSetFromMap(new IdentityHashMap<>());
        Deque<Object> open = new ArrayDeque<>();
        objects = 0;
        elements = 0;
        meet(root, seen, open);
        while (!open.isEmpty()) {
            Object o = open.pop();
            objects++;
            if (o.getClass().isArray()) {
                elements += Array.getLength(o);
                for (int i = 0; o instanceof Object[] && i < Array.getLength(o); i++) {
                    meet(Array.get(o, i), seen, open);
                }
                continue;
            }
            for (Field f : o.getClass().getDeclaredFields()) {
                if (!Modifier.isStatic(f.getModifiers())) {
                    elements++;
                    f.setAccessible(true);
                    meet(f.getType().isPrimitive() ? null : f.get(o), seen, open);
                }
            }
        }
    }

    private static void meet(Object o, Set<Object> seen, Deque<Object> open) {
        if (o != null && seen.add(o)) {
            open.push(o);
        }
    }

    private static void callsMakeNothing() {
        com.sun.management.ThreadMXBean threads = (com.sun.management.ThreadMXBean) ManagementFactory.getThreadMXBean();
        dearCalls(full());
        SaltOffice x = full();
        long thread = Thread.currentThread().getId();
        long before = threads.getThreadAllocatedBytes(thread);
        dearCalls(x);
        long made = threads.getThreadAllocatedBytes(thread) - before;
        Check.due("bytes that the calls made: " + made, made <= SPARE_BYTES, true);
    }

    /** Ten rounds of 40 calls, each sort among them. */
    private static void dearCalls(SaltOffice x) {
        for (int i = 0; i < 10; i++) {
            x.run(i % 2, 240, i);
            x.judge(0, 1, 240, i);
            x.feed(0x72617465, 0x2032303b, 0x20202020, 0x20202020, 0x20202020);
            x.end(i % 2 == 0 ? 8 : 7);
            x.reform(i % 3);
            x.feed(0x726f6164, 0x20703020, 0x70312035, 0x20202020, 0x20202020);
            x.land();
            x.later(i);
            x.untell(i);
            for (int j = 0; j < 6; j++) {
                x.way(j, 4);
                x.worth(j);
                x.book(j, 239, 0);
            }
            x.paper(9, i);
            x.town(i, 200, 1);
            x.pan(i, 200, 1);
            x.fort(i, 200, 1);
            x.ran(i);
            x.about(i);
            x.fault(i);
            x.days(i, 4);
            x.weather(0, i, 90);
            x.forged(i, i);
            x.dead(0, 100 + i, 1);
            x.merchant(i);
            x.costs(1, 9, 1, 300, 9);
        }
    }

    private static void theLastCallIsAnsweredLikeTheFirst() {
        SaltOffice x = full();
        int papers = x.run(0, 240, 0);
        long state = x.ran(2);
        Check.due("PAPERS are given", papers > 100, true);
        // All calls that are left but the last four.
        for (int i = CALLS_OF_FULL + 2; i < CALLS - 4; i++) {
            x.judge(i % 4, i % 3, 240, i);
        }
        Check.due("what was run last stays", x.ran(2), state);
        x.run(1, 7, 0);
        Check.due("the 511th call", x.run(0, 240, 0), papers);
        Check.due("the 512th call", x.ran(2), state);
    }
}
