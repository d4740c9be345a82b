/** Promises 36 to 44: HOLDINGS, VALUES, SPLITS, holders, LEVIES, what is PAID and in ARREAR. */
public final class HoldingsTest {
    private static final Probe p = new Probe();
    private static final int Y = 366;
    private static final int LAST = 146399;

    public static void main(String[] args) {
        holdings();
        values();
        splits();
        helds();
        levies();
        parting();
        exemptAndRate();
        owesWrong();
        payments();
        p.finish("HoldingsTest");
    }

    private static void holdings() {
        p.fresh();
        for (int n = 0; n < 39; n++) {
            p.taken("holding " + n, p.x.holding(), n);
        }
        p.taken("a SPLIT is one, too", p.x.split(0, 1, 2, 0, 0), 39);
        p.refused("the 41st", p.x.holding(), -5);
        p.refused("the 41st", p.x.split(0, 1, 2, 0, 0), -5);
        p.due("count(3)", p.x.count(3), 40);
        p.due("count(4)", p.x.count(4), 40);
    }

    private static void values() {
        p.fresh();
        p.x.holding();
        p.x.split(0, 1, 2, 0, 0);
        p.refused("value -1", p.x.value(9, -1, 0, 0), -1);
        p.refused("value 10001", p.x.value(0, 10001, 0, 0), -1);
        p.refused("day -1", p.x.value(0, 1, -1, 0), -1);
        p.refused("known 146400", p.x.value(0, 1, 0, 146400), -1);
        p.refused("no HOLDING", p.x.value(2, 1, 0, 0), -2);
        p.refused("no HOLDING", p.x.value(-1, 1, 0, 0), -2);
        p.refused("a SPLIT one", p.x.value(1, 1, 0, 0), -3);
        p.fresh();
        p.x.holding();
        p.due("without", p.x.house(0, 100, 100, 0), 0);
        p.taken("value", p.x.value(0, 10000, 100, 50), 1);
        p.due("from that DAY on", p.x.house(0, 100, 50, 0), 10000);
        p.due("not ahead", p.x.house(0, 99, 50, 0), 0);
        p.due("not known", p.x.house(0, 100, 49, 0), 0);
        p.taken("value", p.x.value(0, 5, 90, 200), 2);
        p.due("the latest DAY's", p.x.house(0, 100, 200, 0), 10000);
        p.due("the earlier ahead", p.x.house(0, 99, 200, 0), 5);
        p.taken("value", p.x.value(0, 7, 100, 300), 3);
        p.due("alike: told last", p.x.house(0, 100, 300, 0), 7);
        p.due("as known", p.x.house(0, 100, 299, 0), 10000);
        for (int n = 4; n <= 100; n++) {
            p.due("value " + n, p.x.value(0, 0, 0, 0), n);
        }
        p.refused("the 101st", p.x.value(0, 0, 0, 0), -5);
        p.x.split(0, 1, 2, 0, 0);
        p.refused("-3 first", p.x.value(1, 0, 0, 0), -3);
    }

    private static void splits() {
        p.fresh();
        p.x.holding();
        p.refused("a 0", p.x.split(9, 0, 2, 0, 0), -1);
        p.refused("b 101", p.x.split(0, 1, 101, 0, 0), -1);
        p.refused("a as b", p.x.split(0, 2, 2, 0, 0), -1);
        p.refused("a above b", p.x.split(0, 3, 2, 0, 0), -1);
        p.refused("day -1", p.x.split(0, 1, 2, -1, 0), -1);
        p.refused("known 146400", p.x.split(0, 1, 2, 0, 146400), -1);
        p.refused("no HOLDING", p.x.split(1, 1, 2, 0, 0), -2);
        p.refused("no HOLDING", p.x.split(-1, 1, 2, 0, 0), -2);
        p.x.value(0, 101, 0, 0);
        p.taken("split", p.x.split(0, 1, 3, 10, 20), 1);
        p.taken("split of what is left", p.x.split(0, 1, 2, 5, 20), 2);
        p.taken("split of the split", p.x.split(1, 99, 100, 30, 20), 3);
        worth("all", 30, 20, 34, 1, 34, 32);
        worth("ahead of the third", 29, 20, 34, 33, 34, 0);
        worth("ahead of the first", 9, 20, 51, 0, 50, 0);
        worth("ahead of all", 4, 20, 101, 0, 0, 0);
        worth("not known", 30, 19, 101, 0, 0, 0);
        p.x.value(0, 2, 50, 0);
        worth("a new VALUE is split, too", 50, 20, 1, 0, 1, 0);
        p.taken("a split told later", p.x.split(0, 1, 100, 0, 0), 4);
        p.due("takes 1 of 51, cut", p.x.house(4, 9, 20, 0), 0);
        p.due("takes 1 of 101", p.x.house(4, 4, 20, 0), 1);
        p.due("leaves 100", p.x.house(0, 4, 20, 0), 100);
    }

    private static void worth(String what, int day, int known, int... want) {
        for (int h = 0; h < want.length; h++) {
            p.due(what + ": HOLDING " + h, p.x.house(h, day, known, 0), want[h]);
        }
    }

    private static void helds() {
        p.fresh();
        p.line(3, 0, 0, 100, 5, "ann lee.");
        p.line(3, 0, 0, 0, 5, "bob lee.");
        p.line(3, 0, 0, 0, 5, "ann lee.");
        p.x.holding();
        p.refused("day -1", p.x.hold(9, 0, -1, 0), -1);
        p.refused("known 146400", p.x.hold(0, 0, 0, 146400), -1);
        p.refused("no HOLDING", p.x.hold(1, 0, 0, 0), -2);
        p.refused("no HOLDING", p.x.hold(-1, 0, 0, 0), -2);
        p.refused("no MENTION", p.x.hold(0, 1, 0, 0), -2);
        p.refused("no MENTION", p.x.hold(0, 9, 0, 0), -2);
        p.refused("no MENTION", p.x.hold(0, -2, 0, 0), -2);
        p.due("nobody", p.x.house(0, 0, 0, 1), -1);
        p.taken("hold", p.x.hold(0, 3, 10, 20), 1);
        p.taken("hold", p.x.hold(0, 6, 50, 20), 2);
        p.due("holds", p.x.house(0, 10, 20, 1), 3);
        p.due("what 2", p.x.house(0, 10, 20, 2), -1);
        p.due("what -1", p.x.house(0, 10, 20, -1), -1);
        p.due("not yet", p.x.house(0, 9, 20, 1), -1);
        p.due("not known", p.x.house(0, 10, 19, 1), -1);
        p.due("the latest", p.x.house(0, 50, 20, 1), 6);
        p.x.together(0, 6, 150);
        p.due("the SOUL as known", p.x.house(0, 50, 149, 1), 6);
        p.due("the SOUL as known", p.x.house(0, 50, 150, 1), 0);
        p.taken("nobody again", p.x.hold(0, -1, 60, 20), 3);
        p.due("nobody", p.x.house(0, 60, 20, 1), -1);
        p.taken("a MENTION not known yet", p.x.hold(0, 0, 70, 20), 4);
        p.due("nobody then", p.x.house(0, 70, 20, 1), -1);
        p.due("the SOUL then", p.x.house(0, 70, 100, 1), 0);
        p.x.hold(0, 3, 70, 30);
        p.due("alike: told last", p.x.house(0, 70, 100, 1), 3);
        p.x.split(0, 1, 2, 40, 0);
        p.x.split(1, 1, 2, 40, 0);
        p.due("a SPLIT as its own", p.x.house(1, 50, 20, 1), 6);
        p.due("a SPLIT of a SPLIT", p.x.house(2, 50, 20, 1), 6);
        p.x.hold(1, 3, 55, 20);
        p.due("told to hold", p.x.house(1, 55, 20, 1), 3);
        p.due("so is its own", p.x.house(2, 55, 20, 1), 3);
        p.due("not ahead of that", p.x.house(1, 54, 20, 1), 6);
        p.x.hold(2, -1, 55, 20);
        p.due("nobody by what is told", p.x.house(2, 55, 20, 1), -1);
        p.due("no HOLDING", p.x.house(3, 0, 0, 0), -1);
        p.due("no HOLDING", p.x.house(-1, 0, 0, 0), -1);
        p.due("no DAY", p.x.house(0, -1, 0, 0), -1);
        p.due("no DAY", p.x.house(0, 0, 146400, 0), -1);
        p.due("what", p.x.house(0, 0, 0, 2), -1);
        p.due("what", p.x.house(0, 0, 0, -1), -1);
        for (int n = 8; n <= 100; n++) {
            p.due("hold " + n, p.x.hold(0, -1, 0, 0), n);
        }
        p.refused("the 101st", p.x.hold(0, -1, 0, 0), -5);
        p.refused("-2 first", p.x.hold(0, 1, 0, 0), -2);
    }

    private static void levies() {
        p.fresh();
        p.refused("what -1", p.x.levy(-1, 0, 0, 0), -1);
        p.refused("what 3", p.x.levy(3, 0, 0, 0), -1);
        p.refused("YEAR -1", p.x.levy(0, -1, 0, 0), -1);
        p.refused("YEAR 400", p.x.levy(0, 400, 0, 0), -1);
        p.refused("pence -1", p.x.levy(0, 0, -1, 0), -1);
        p.refused("pence 1000001", p.x.levy(0, 0, 1000001, 0), -1);
        p.refused("known -1", p.x.levy(0, 0, 0, -1), -1);
        p.refused("known 146400", p.x.levy(0, 0, 0, 146400), -1);
        for (int n = 0; n < 40; n++) {
            p.taken("levy " + n, p.x.levy(n % 3, 399, 1000000, 0), n);
        }
        p.refused("the 41st", p.x.levy(0, 0, 0, 0), -5);
        p.refused("-1 first", p.x.levy(3, 0, 0, 0), -1);
        p.due("count(5)", p.x.count(5), 40);
    }

    private static void owes(String what, int levy, int known, int... want) {
        int all = 0;
        for (int h = 0; h < want.length; h++) {
            p.due(what + ": HOLDING " + h, p.x.owe(levy, h, known), want[h]);
            all += want[h];
        }
        p.due(what + ": all", p.x.owe(levy, -1, known), all);
    }

    private static void row(int... values) {
        p.fresh();
        p.line(3, 0, 5, "ann lee.");
        for (int h = 0; h < values.length; h++) {
            p.x.holding();
            p.x.value(h, values[h], 0, 0);
            p.x.hold(h, 0, 0, 0);
        }
    }

    private static void parting() {
        row(1, 1, 1);
        p.x.levy(0, 5, 100, 0);
        owes("rests alike: the lower", 0, 0, 34, 33, 33);
        p.x.levy(0, 5, 101, 0);
        owes("two left", 1, 0, 34, 34, 33);
        p.x.levy(0, 5, 0, 0);
        owes("nothing", 2, 0, 0, 0, 0);
        row(3, 7, 0, 11);
        p.x.levy(0, 5, 10, 0);
        // 30/21 = 1 r 9, 70/21 = 3 r 7, 110/21 = 5 r 5: one is left.
        owes("the greatest rest", 0, 0, 2, 3, 0, 5);
        p.x.levy(0, 5, 1, 0);
        owes("one penny", 1, 0, 0, 0, 0, 1);
        row(10000, 10000, 10000, 1);
        p.x.levy(0, 5, 1000000, 0);
        owes("large", 0, 0, 333322, 333322, 333322, 34);
        // On the first DAY of the YEAR, as known on the DAY that is asked.
        row(10, 10);
        p.x.levy(0, 5, 90, 0);
        p.x.value(1, 20, 5 * Y, 100);
        owes("as known", 0, 99, 45, 45);
        owes("a VALUE of that DAY", 0, 100, 30, 60);
        p.x.value(1, 30, 5 * Y + 1, 0);
        owes("a VALUE of the DAY behind it", 0, 100, 30, 60);
        p.x.hold(0, -1, 5 * Y, 200);
        owes("held by nobody", 0, 200, 0, 90);
        p.x.hold(1, -1, 5 * Y, 300);
        owes("none is held", 0, 300, 0, 0);
        row();
        p.x.levy(0, 0, 77, 0);
        p.due("no HOLDINGS", p.x.owe(0, -1, 0), 0);
    }

    private static void exemptAndRate() {
        p.fresh();
        for (int n = 0; n < 3; n++) {
            p.line(3, 0, 5, "ann lee.");
            p.x.holding();
            p.x.value(n, 10 * (n + 1), 0, 0);
            p.x.hold(n, n * 3, 0, 0);
        }
        p.x.levy(1, 5, 600, 0);
        p.x.levy(2, 5, 600, 0);
        owes("plain", 0, 0, 100, 200, 300);
        p.text(0, 5 * Y, 10, "exempt way if value < 15");
        owes("exempt", 0, 10, 0, 240, 360);
        owes("as known", 0, 9, 100, 200, 300);
        owes("another WHAT", 1, 10, 100, 200, 300);
        p.text(0, 5 * Y + 1, 10, "exempt way");
        owes("not in force on the first DAY", 0, 10, 0, 240, 360);
        p.text(0, 0, 20, "rate way 300");
        owes("no one owes more", 0, 20, 0, 240, 300);
        p.text(1, 0, 30, "rate way value - 25");
        owes("the one that COUNTS; below 0: 0", 0, 30, 0, 0, 5);
        p.text(1, 0, 40, "rate way value / 0");
        owes("BROKEN counts not", 0, 40, 0, 0, 5);
        p.text(1, 0, 50, "exempt way if value > 25;exempt way if value = 20");
        owes("all exempt", 0, 50, 0, 0, 0);
        owes("another WHAT", 1, 50, 100, 200, 300);
        p.x.levy(0, 5, 1, 0);
        owes("one penny", 2, 50, 0, 0, 1);
        p.text(1, 0, 55, "rate church 0");
        owes("one penny at most 0", 2, 55, 0, 0, 0);
        p.text(1, 0, 60, "rate poor 100 * 1000 * 1000 * 1000");
        owes("a great SUM", 1, 60, 100, 200, 300);
    }

    private static void owesWrong() {
        row(5);
        p.x.levy(0, 5, 7, 50);
        p.due("fine", p.x.owe(0, 0, 50), 7);
        p.due("not known", p.x.owe(0, 0, 49), -1);
        p.due("not known, of all", p.x.owe(0, -1, 49), -1);
        p.due("no LEVY", p.x.owe(1, 0, 50), -1);
        p.due("no LEVY", p.x.owe(-1, 0, 50), -1);
        p.due("no HOLDING", p.x.owe(0, 1, 50), -1);
        p.due("no HOLDING", p.x.owe(0, -2, 50), -1);
        p.due("no DAY", p.x.owe(0, 0, -1), -1);
        p.due("no DAY", p.x.owe(0, 0, 146400), -1);
    }

    private static void payments() {
        row(5, 5);
        p.x.levy(0, 5, 100, 50);
        p.x.levy(0, 6, 100, 50);
        p.refused("pence 0", p.x.pay(9, 0, 0, 0, 0), -1);
        p.refused("pence 1000001", p.x.pay(0, 0, 1000001, 0, 0), -1);
        p.refused("day -1", p.x.pay(0, 0, 1, -1, 0), -1);
        p.refused("known 146400", p.x.pay(0, 0, 1, 0, 146400), -1);
        p.refused("no LEVY", p.x.pay(2, 0, 1, 0, 0), -2);
        p.refused("no LEVY", p.x.pay(-1, 0, 1, 0, 0), -2);
        p.refused("no HOLDING", p.x.pay(0, 2, 1, 0, 0), -2);
        p.refused("no HOLDING", p.x.pay(0, -1, 1, 0, 0), -2);
        p.taken("pay", p.x.pay(0, 0, 20, 100, 200), 1);
        p.taken("pay", p.x.pay(0, 0, 40, 110, 190), 2);
        p.taken("pay of another LEVY", p.x.pay(1, 0, 7, 100, 100), 3);
        p.taken("pay of another HOLDING", p.x.pay(0, 1, 3, 100, 100), 4);
        p.due("count(10)", p.x.count(10), 4);
        p.due("both", p.x.arrear(0, 0, 110, 200), -10);
        p.due("the first", p.x.arrear(0, 0, 109, 200), 30);
        p.due("none", p.x.arrear(0, 0, 99, 200), 50);
        p.due("the second as known", p.x.arrear(0, 0, 110, 190), 10);
        p.due("none as known", p.x.arrear(0, 0, 110, 189), 50);
        p.due("another LEVY", p.x.arrear(1, 0, 110, 200), 43);
        p.due("another HOLDING", p.x.arrear(0, 1, 110, 200), 47);
        p.due("not known", p.x.arrear(0, 0, 110, 49), Probe.NOTHING);
        p.due("no LEVY", p.x.arrear(2, 0, 110, 200), Probe.NOTHING);
        p.due("no LEVY", p.x.arrear(-1, 0, 110, 200), Probe.NOTHING);
        p.due("no HOLDING", p.x.arrear(0, 2, 110, 200), Probe.NOTHING);
        p.due("no HOLDING", p.x.arrear(0, -1, 110, 200), Probe.NOTHING);
        p.due("no DAY", p.x.arrear(0, 0, -1, 200), Probe.NOTHING);
        p.due("no DAY", p.x.arrear(0, 0, 146400, 200), Probe.NOTHING);
        p.due("no DAY", p.x.arrear(0, 0, 0, 146400), Probe.NOTHING);
        for (int n = 5; n <= 100; n++) {
            p.due("pay " + n, p.x.pay(0, 0, 1000000, 1000, 1000), n);
        }
        p.refused("the 101st", p.x.pay(0, 0, 1, 0, 0), -5);
        p.refused("-2 first", p.x.pay(0, 2, 1, 0, 0), -2);
        p.due("far below 0", p.x.arrear(0, 0, LAST, LAST), -10 - 96000000);
    }
}
