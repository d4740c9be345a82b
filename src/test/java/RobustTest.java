import java.util.ArrayList;
import java.util.List;
import java.util.Random;

/** No call ever throws, whatever its numbers and the chest's state; and the same calls give the same answers. */
public final class RobustTest {
    private static final int[] EDGES = {Integer.MIN_VALUE, Integer.MIN_VALUE + 1, -1000000001, -366, -3, -2, -1, 0, 1, 2,
        3, 5, 8, 9, 11, 12, 15, 16, 29, 30, 39, 40, 99, 100, 120, 199, 200, 255, 256, 365, 366, 399, 400, 598, 599, 600,
        1000, 1001, 10000, 100000, 146399, 146400, 1000000, Integer.MAX_VALUE - 1, Integer.MAX_VALUE};
    private static final String[] NAMES = ("feed end fault line of spell name piece terms reason worth apart together waits"
            + " soul mentions kin span wish clear best group join torn fill text force holds counts about fact belong order"
            + " appeal holding value split hold house levy owe pay arrear turn entry close balance beyond badge seat fee"
            + " acres price coin seal alter found image back as count status").split(" ");

    private static final String ASKS = " fault of name piece reason worth waits soul mentions kin span best group fill force holds"
            + " counts about belong order house owe arrear turn balance beyond badge seat fee coin found as count status ";

    public static void main(String[] args) {
        for (long seed = 1; seed <= 60; seed++) {
            wild(seed);
        }
        full();
        for (long seed = 1; seed <= 60; seed++) {
            if (!replayed(seed)) {
                System.exit(1);
            }
        }
        System.out.println("RobustTest: nothing was thrown");
    }

    /** Numbers of all sizes, into a chest that random calls fill at the same time. */
    private static void wild(long seed) {
        Random random = new Random(seed);
        Calls calls = new Calls(seed);
        ParishChest x = new ParishChest();
        for (int n = 0; n < 500; n++) {
            if (random.nextInt(3) > 0) {
                String name = calls.next(x);
                int[] a = calls.arguments(name, x);
                String text = calls.textFor(name);
                if (text != null) {
                    Probe.feed(x, text);
                }
                Calls.put(x, name, a);
            } else {
                Calls.put(x, NAMES[random.nextInt(NAMES.length)], edges(random, 6));
            }
        }
    }

    private static int[] edges(Random random, int many) {
        int[] a = new int[many];
        for (int i = 0; i < many; i++) {
            a[i] = random.nextInt(8) == 0 ? random.nextInt() : EDGES[random.nextInt(EDGES.length)];
        }
        return a;
    }

    /** As much of everything as there is room for. */
    private static void full() {
        Random random = new Random(7);
        ParishChest x = new ParishChest();
        for (int n = 0; n < 200; n++) {
            Probe.feed(x, n % 2 == 0 ? "abcdefghijkl abcdefghijkl, abcdefghijkl lee, eve lee." : "?.");
            x.line(n % 2 == 0 ? 0 : 4, n % 16, n * 700, 0, n % 2 == 0 ? -1 : 100000);
            x.together(3 * n + 1, 3 * n - 5, 0);
            x.together(3, 3 * n, 0);
            x.fact(3 * n, n % 5, n % 12, n, n + 400, 0);
            x.torn(n % 6, n * 50, n * 60, 0);
            x.value(n % 40, 10000, n, 0);
            x.levy(n % 3, n, 1000000, 0);
            x.pay(n % 40, n % 40, 1000000, 0, 0);
            x.entry(n % 4, n, 1000000, 0);
            x.close(0, n, x.balance(0, n, 0), 0);
            x.price(n % 3, n, 10000, 0);
            x.holding();
            x.hold(n % 40, n * 3, 0, 0);
            x.apart(n * 3, 3 * n + 1);
        }
        for (int n = 0; n < 30; n++) {
            Probe.feed(x, "turn constable 1 if value > 1 or age < 0-1;strike " + n + " clause 3;belong birth if age*age*age > 0;"
                    + "seat value*value*value*value*value*value;rate poor [value+1]/[age-age];belong parents;belong wed;"
                    + "relief 100000*100000*100*[0-1];fee bell 100000*100000*100;fee grave relieved;badge;exempt way if poor");
            x.text(n % 2, n, 0);
        }
        for (int n = 0; n < 9; n++) {
            x.wish(n * 6);
        }
        for (int k = 0; k < 4; k++) {
            x.image(k);
        }
        for (int n = 0; n < 20000; n++) {
            String name = NAMES[random.nextInt(NAMES.length)];
            if (!name.equals("back") && !name.equals("clear") && !(name.equals("best") && n % 20 > 0)) {
                int[] a = edges(random, 6);
                for (int i = 0; i < 6; i++) {
                    a[i] = random.nextInt(3) == 0 ? random.nextInt(200) : a[i];
                }
                Calls.put(x, name, a);
            }
        }
        for (int k = 0; k < 4; k++) {
            x.back(k);
        }
        Calls.put(x, "turn", new int[] {0, 399, 146399, 0});
    }

    /** What was worked out on the way changes nothing: the told calls alone lead to the same answers. */
    private static boolean replayed(long seed) {
        Calls calls = new Calls(seed * 1000);
        ParishChest guide = new ParishChest();
        ParishChest x = new ParishChest();
        List<Object[]> told = new ArrayList<>();
        for (int n = 0; n < 160; n++) {
            String name = calls.next(guide);
            int[] a = calls.arguments(name, guide);
            if (name.equals("fill")) {
                calls.fillDays(a, guide);
            }
            Object[] one = {name, a, calls.textFor(name)};
            put(guide, one);
            long got = put(x, one);
            if (n % 10 == 9) {
                ParishChest other = new ParishChest();
                for (Object[] ahead : told) {
                    put(other, ahead);
                }
                long again = put(other, one);
                if (got != again) {
                    System.out.println("run " + seed + ", call " + n + ": " + name + " answered " + got
                            + ", but " + again + " in a chest that was asked nothing ahead");
                    return false;
                }
            }
            if (!ASKS.contains(" " + name + " ")) {
                told.add(one);
            }
        }
        return true;
    }

    private static long put(ParishChest x, Object[] one) {
        if (one[2] != null) {
            Probe.feed(x, (String) one[2]);
        }
        return Calls.put(x, (String) one[0], (int[]) one[1]);
    }
}
