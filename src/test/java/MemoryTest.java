import java.lang.management.ManagementFactory;
import java.lang.reflect.Array;
import java.lang.reflect.Field;
import java.lang.reflect.Modifier;
import java.util.ArrayDeque;
import java.util.Collections;
import java.util.IdentityHashMap;
import java.util.Set;

/**
 * What a chest makes: its rows in the constructor, a chest for each IMAGE, a row of numbers for each TEXT; no call that
 * asks, or that tells anything else, makes an object (LANGUAGE.md 12).
 */
public final class MemoryTest {
    private static final long MOST_OF_A_CHEST = 130000;
    private static final long MOST_OF_AN_IMAGE = 40000;
    private static int wrong = 0;

    public static void main(String[] args) throws Exception {
        ParishChest x = new ParishChest();
        long[] empty = held(x);
        most("fields and elements of a new chest", empty[1], MOST_OF_A_CHEST);
        most("objects of a new chest", empty[0], 200);
        for (int k = 0; k < 4; k++) {
            x.image(k);
        }
        long[] kept = held(x);
        most("fields and elements of an IMAGE", (kept[1] - empty[1]) / 4, MOST_OF_AN_IMAGE);
        for (int n = 0; n < 40; n++) {
            x.image(n % 4);
        }
        most("objects of IMAGES kept again", held(x)[0] - kept[0], 0);
        texts();
        long bytes = madeByAsking();
        most("bytes made by calls that ask", bytes, 0);
        System.out.println("MemoryTest: a chest " + empty[1] + ", an IMAGE " + (kept[1] - empty[1]) / 4 + " fields and elements");
        if (wrong > 0) {
            System.exit(1);
        }
    }

    private static void most(String what, long got, long most) {
        if (got > most) {
            wrong++;
            System.out.println(what + ": " + got + ", at most " + most);
        }
    }

    private static void texts() throws Exception {
        ParishChest x = new ParishChest();
        long before = held(x)[1];
        StringBuilder longest = new StringBuilder("seat 1");
        for (int n = 0; n < 59; n++) {
            longest.append("+1");
        }
        for (int n = 0; n < 30; n++) {
            Probe.feed(x, longest.toString());
            if (x.text(0, 0, 0) != n) {
                most("a TEXT was not taken", 1, 0);
            }
        }
        most("fields and elements of a TEXT", (held(x)[1] - before) / 30, 500);
    }

    /** How many objects and arrays, how many fields and elements can be reached from one. */
    private static long[] held(Object root) throws Exception {
        Set<Object> seen = Collections.newSetFromMap(new IdentityHashMap<>());
        ArrayDeque<Object> open = new ArrayDeque<>();
        open.add(root);
        seen.add(root);
        long[] many = new long[2];
        while (!open.isEmpty()) {
            Object one = open.remove();
            many[0]++;
            Class<?> type = one.getClass();
            if (type.isArray()) {
                many[1] += Array.getLength(one);
                for (int i = 0; i < Array.getLength(one) && !type.getComponentType().isPrimitive(); i++) {
                    visit(Array.get(one, i), seen, open);
                }
                continue;
            }
            for (Field f : type.getDeclaredFields()) {
                if (!Modifier.isStatic(f.getModifiers())) {
                    many[1]++;
                    f.setAccessible(true);
                    if (!f.getType().isPrimitive()) {
                        visit(f.get(one), seen, open);
                    }
                }
            }
        }
        return many;
    }

    private static void visit(Object one, Set<Object> seen, ArrayDeque<Object> open) {
        if (one != null && seen.add(one)) {
            open.add(one);
        }
    }

    /** 0 where this machine does not count them. */
    private static long madeByAsking() {
        if (!(ManagementFactory.getThreadMXBean() instanceof com.sun.management.ThreadMXBean)) {
            return 0;
        }
        com.sun.management.ThreadMXBean threads = (com.sun.management.ThreadMXBean) ManagementFactory.getThreadMXBean();
        ParishChest x = Scene.built();
        long id = Thread.currentThread().getId();
        long made = 0;
        for (int round = 0; round < 3; round++) {
            long before = threads.getThreadAllocatedBytes(id);
            long between = threads.getThreadAllocatedBytes(id);
            ask(x, round);
            made = threads.getThreadAllocatedBytes(id) - between - (between - before);
        }
        return Math.max(0, made);
    }

    private static long ask(ParishChest x, int round) {
        long sum = 0;
        int last = 146399;
        for (int day = 0; day < 70 * 366; day += 5000) {
            for (int m = 0; m < 22; m++) {
                sum += x.soul(m, day) + x.mentions(m, last, 0, 0) + x.kin(m, last, 3, 0) + x.span(m, last, 1);
                sum += x.about(m, day, last, m % 10) + x.belong(m, day, last, 0) + x.counts(m % 8, m, day, last, 0);
                sum += x.badge(m, day, last) + x.holds(m % 3, 0, m, day, last) + x.reason(m, 0) + x.worth(m, 6);
            }
            sum += x.fill(0, day, last, last, 0) + x.fill(0, day, last, last, 1) + x.fill(0, day, last, last, 2);
            sum += x.house(1, day, last, 0) + x.seat(day, last, 0) + x.force(0, 0, day, last) + x.waits(day, -1);
        }
        sum += x.best(0, 0) + x.best(3, 9) + x.group(0) + x.owe(0, -1, last) + x.arrear(1, 2, last, last) + x.turn(3, 399, last, 2);
        sum += x.balance(2, 31, last) + x.beyond(4, last) + x.fee(2, last) + x.coin(0, 32, last) + x.found(31) + x.order(5, last, 2);
        x.hold(0, 0, round, 0);
        x.value(0, round, 0, 0);
        x.together(1, 4, last);
        return sum;
    }
}
