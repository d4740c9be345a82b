/** Promises 49 to 55: BEYOND, BADGES, SEATS, FEES, ACRES, PRICES, COIN. */
public final class ReliefTest {
    private static final Probe p = new Probe();
    private static final int Y = 366;
    private static final int LAST = 146399;

    public static void main(String[] args) {
        beyond();
        badge();
        seats();
        fees();
        acresAndPrices();
        coin();
        p.finish("ReliefTest");
    }

    private static void beyond() {
        p.fresh();
        p.line(4, 0, 1000, 1100, 50, "ann lee.");
        p.line(3, 0, 1000, 1100, 50, "ann lee.");
        p.due("without a CLAUSE all", p.x.beyond(0, 1100), 50);
        p.text(0, 1000, 1200, "relief 30");
        p.due("above the SUM", p.x.beyond(0, 1200), 20);
        p.due("as known", p.x.beyond(0, 1199), 50);
        p.text(0, 1001, 1200, "relief 40");
        p.due("on its DAY", p.x.beyond(0, 1200), 20);
        p.text(0, 0, 1300, "relief relieved");
        p.due("just that", p.x.beyond(0, 1300), 0);
        p.text(0, 0, 1400, "relief 70");
        p.due("at least 0", p.x.beyond(0, 1400), 0);
        p.text(1, 0, 1500, "relief 10 - 50");
        p.due("a SUM below 0 is 0", p.x.beyond(0, 1500), 50);
        p.text(1, 0, 1600, "relief 1 / 0;relief 44 if dead");
        p.due("what does not HOLD counts not", p.x.beyond(0, 1600), 50);
        p.text(1, 0, 1700, "relief 100000 * 100000 * 100");
        p.due("a great SUM", p.x.beyond(0, 1700), 0);
        p.text(1, 0, 1800, "relief 0 - 100000 * 100000 * 100");
        p.due("a SUM far below 0", p.x.beyond(0, 1800), 50);
        p.line(4, 0, 1000, 1100, 60, "eve lee.");
        p.x.together(3, 6, 0);
        p.text(1, 0, 1900, "relief relieved - 3");
        p.due("of its own SOUL", p.x.beyond(2, 1900), 3);
        p.due("of its own SOUL", p.x.beyond(0, 1900), 3);
        p.due("not known", p.x.beyond(0, 1099), -1);
        p.due("no relief", p.x.beyond(1, 1100), -1);
        p.due("no LINE", p.x.beyond(3, 1100), -1);
        p.due("no LINE", p.x.beyond(-1, 1100), -1);
        p.due("no DAY", p.x.beyond(0, -1), -1);
        p.due("no DAY", p.x.beyond(0, 146400), -1);
    }

    private static void badge() {
        p.fresh();
        p.line(4, 1000, 50, "ann lee.");
        p.line(4, 1000, 0, "bob lee.");
        p.due("no CLAUSE", p.x.badge(0, 1000, 1000), 0);
        p.text(0, 1010, 1000, "badge unless age > 60");
        p.due("not in force", p.x.badge(0, 1009, 1000), 0);
        p.due("badge", p.x.badge(0, 1010, 1000), 1);
        p.due("not poor", p.x.badge(3, 1010, 1000), 0);
        p.due("poor till then", p.x.badge(0, 1365, 1000), 1);
        p.due("no more", p.x.badge(0, 1366, 1000), 0);
        p.text(1, 0, 2000, "strike 0 clause 0;badge if dead");
        p.due("none HOLDS", p.x.badge(0, 1010, 2000), 0);
        p.text(1, 0, 3000, "badge if relieved = 50;badge if dead");
        p.due("any that HOLDS", p.x.badge(0, 1010, 3000), 1);
        p.due("not known", p.x.badge(0, 1010, 999), -1);
        p.due("no MENTION", p.x.badge(1, 1010, 1000), -1);
        p.due("no MENTION", p.x.badge(-1, 1010, 1000), -1);
        p.due("no DAY", p.x.badge(0, -1, 1000), -1);
        p.due("no DAY", p.x.badge(0, 146400, 1000), -1);
        p.due("no DAY", p.x.badge(0, 1010, 146400), -1);
    }

    private static void seated(String what, int day, int known, int... want) {
        p.due(what + ": how many", p.x.seat(day, known, -1), want.length);
        for (int i = 0; i < want.length; i++) {
            p.due(what + ": SEAT " + i, p.x.seat(day, known, i), want[i]);
        }
        p.due(what + ": behind", p.x.seat(day, known, want.length), -1);
        p.due(what + ": ahead", p.x.seat(day, known, -2), -1);
    }

    private static void seats() {
        p.fresh();
        int[] values = {20, 50, 20, 0, 90, 50};
        for (int h = 0; h < 6; h++) {
            p.line(3, 0, 5, "ann lee.");
            p.x.holding();
            p.x.value(h, values[h], 0, 0);
            p.x.hold(h, h * 3, h == 4 ? 10 : 0, 0);
        }
        seated("without a CLAUSE", 0, 0, 0, 1, 2, 3, 5);
        p.text(0, 0, 1, "seat value if value > 0");
        seated("by SUMS, those without behind", 10, 1, 4, 1, 5, 0, 2, 3);
        seated("one not held yet", 9, 1, 1, 5, 0, 2, 3);
        p.text(0, 0, 2, "seat 0 - value unless value = 20");
        seated("below 0, too; none is behind all", 10, 2, 0, 2, 3, 1, 5, 4);
        p.text(0, 0, 3, "seat 0 - 100000 * 100000 * 100 if value = 50;strike 0 clause 0");
        seated("far below 0", 10, 3, 3, 4, 1, 5, 0, 2);
        p.x.hold(5, 3, 20, 0);
        p.text(0, 0, 4, "seat value");
        seated("one holds two", 20, 4, 1, 5, 4, 0, 2, 3);
        p.due("no DAY", p.x.seat(-1, 0, -1), -1);
        p.due("no DAY", p.x.seat(146400, 0, -1), -1);
        p.due("no DAY", p.x.seat(0, -1, -1), -1);
        p.due("no DAY", p.x.seat(0, 146400, -1), -1);
    }

    private static void fees() {
        p.fresh();
        p.line(2, 0, 1000, 1100, 5, "ann lee.");
        p.line(1, 0, 1000, 1100, -1, "bob lee, eve lee.");
        p.line(0, 0, 1000, 1100, -1, "tom lee.");
        p.line(3, 0, 1000, 1100, 5, "bob lee.");
        for (int line = 0; line < 4; line++) {
            p.due("none of LINE " + line, p.x.fee(line, 1100), 0);
        }
        p.text(0, 1000, 1200, "fee bell 5;fee grave 7;fee wedding 9");
        p.due("bell and grave", p.x.fee(0, 1200), 12);
        p.due("wedding", p.x.fee(1, 1200), 9);
        p.due("of a birth 0", p.x.fee(2, 1200), 0);
        p.due("of a rate 0", p.x.fee(3, 1200), 0);
        p.due("as known", p.x.fee(0, 1199), 0);
        p.text(0, 1001, 1200, "fee bell 50");
        p.due("on its DAY", p.x.fee(0, 1200), 12);
        p.text(1, 0, 1300, "fee bell 3 - 9");
        p.due("below 0: 0", p.x.fee(0, 1300), 7);
        p.text(1, 0, 1400, "fee grave 20 if dead;fee wedding 20 if holds");
        p.due("for the dead's SOUL", p.x.fee(0, 1400), 20);
        p.due("that does not HOLD", p.x.fee(1, 1400), 9);
        p.x.holding();
        p.x.value(0, 5, 0, 0);
        p.x.hold(0, 4, 0, 0);
        p.due("not the bride's", p.x.fee(1, 1400), 9);
        p.x.hold(0, 3, 0, 0);
        p.due("for the groom's SOUL", p.x.fee(1, 1400), 20);
        p.text(1, 0, 1500, "fee bell 100000 * 100000 * 100;fee grave 100000 * 100000 * 100");
        p.due("great ones", p.x.fee(0, 1500), 2000000000000L);
        p.due("not known", p.x.fee(0, 1099), -1);
        p.due("no LINE", p.x.fee(4, 1500), -1);
        p.due("no LINE", p.x.fee(-1, 1500), -1);
        p.due("no DAY", p.x.fee(0, -1), -1);
        p.due("no DAY", p.x.fee(0, 146400), -1);
    }

    private static void acresAndPrices() {
        p.fresh();
        p.refused("CROP -1", p.x.acres(9, -1, 0), -1);
        p.refused("CROP 3", p.x.acres(0, 3, 0), -1);
        p.refused("acres -1", p.x.acres(0, 0, -1), -1);
        p.refused("acres 1001", p.x.acres(0, 0, 1001), -1);
        p.refused("no HOLDING", p.x.acres(0, 0, 0), -2);
        p.refused("no HOLDING", p.x.acres(-1, 0, 0), -2);
        p.x.holding();
        p.taken("acres", p.x.acres(0, 2, 1000), 0);
        p.refused("CROP -1", p.x.price(-1, 0, 0, 0), -1);
        p.refused("CROP 3", p.x.price(3, 0, 0, 0), -1);
        p.refused("YEAR -1", p.x.price(0, -1, 0, 0), -1);
        p.refused("YEAR 400", p.x.price(0, 400, 0, 0), -1);
        p.refused("price -1", p.x.price(0, 0, -1, 0), -1);
        p.refused("price 10001", p.x.price(0, 0, 10001, 0), -1);
        p.refused("known -1", p.x.price(0, 0, 0, -1), -1);
        p.refused("known 146400", p.x.price(0, 0, 0, 146400), -1);
        for (int n = 1; n <= 100; n++) {
            p.taken("price " + n, p.x.price(2, n % 400, 10000, 0), n);
        }
        p.refused("the 101st", p.x.price(0, 0, 0, 0), -5);
        p.refused("-1 first", p.x.price(3, 0, 0, 0), -1);
        p.due("the dearest", p.x.coin(0, 50, 0), 1000000);
    }

    private static void coin() {
        p.fresh();
        p.x.holding();
        p.x.holding();
        p.due("nothing", p.x.coin(0, 10, 0), 0);
        p.x.acres(0, 0, 10);
        p.x.acres(0, 1, 1);
        p.x.acres(0, 2, 7);
        p.due("no PRICE", p.x.coin(0, 10, 0), 0);
        p.x.price(0, 9, 8, 50);
        p.due("10 * 8 / 10", p.x.coin(0, 10, 50), 8);
        p.due("not known", p.x.coin(0, 10, 49), 0);
        p.due("seven YEARS ahead", p.x.coin(0, 16, 50), 8);
        p.due("eight YEARS ahead", p.x.coin(0, 17, 50), 0);
        p.due("its own YEAR is none", p.x.coin(0, 9, 50), 0);
        p.due("of another HOLDING", p.x.coin(1, 10, 50), 0);
        p.x.price(0, 8, 1, 50);
        p.due("10 * 9 / 20", p.x.coin(0, 10, 50), 4);
        p.x.price(1, 3, 5, 50);
        p.due("and 1 * 5 / 10: 4.5 and 0.5", p.x.coin(0, 10, 50), 5);
        p.due("without the other one's YEAR", p.x.coin(0, 11, 50), 4);
        p.x.price(0, 9, 2, 60);
        p.due("told last counts", p.x.coin(0, 10, 60), 2);
        p.due("as known", p.x.coin(0, 10, 59), 5);
        p.x.price(0, 9, 8, 55);
        p.due("told last, not known last", p.x.coin(0, 10, 60), 5);
        // Thirds, fifths and sevenths: 7 * 3 / 10 .. as one fraction.
        p.fresh();
        p.x.holding();
        p.x.acres(0, 0, 1);
        p.x.acres(0, 1, 1);
        p.x.acres(0, 2, 1);
        for (int y = 0; y < 7; y++) {
            p.x.price(0, y, y == 0 ? 10 : 0, 0);
            if (y < 5) {
                p.x.price(1, y, y == 0 ? 10 : 0, 0);
            }
            if (y < 3) {
                p.x.price(2, y, y == 0 ? 10 : 0, 0);
            }
        }
        p.due("1/7 and 1/5 and 1/3", p.x.coin(0, 7, 0), 0);
        p.x.price(0, 0, 33, 0);
        p.due("33/70 and 1/5 and 1/3: 1.004", p.x.coin(0, 7, 0), 1);
        p.x.price(0, 0, 32, 0);
        p.due("32/70 and 1/5 and 1/3: 0.99", p.x.coin(0, 7, 0), 0);
        p.x.acres(0, 0, 2);
        p.due("ACRES anew", p.x.coin(0, 7, 0), 1);
        p.fresh();
        p.x.holding();
        p.x.acres(0, 1, 1000);
        p.x.price(1, 0, 9999, 0);
        p.due("9999 / 10 * 1000", p.x.coin(0, 1, 0), 999900);
        p.x.price(1, 1, 10000, 0);
        p.due("19999 / 20 * 1000", p.x.coin(0, 2, 0), 999950);
        p.x.price(1, 2, 10000, 0);
        p.due("29999 / 30 * 1000, cut", p.x.coin(0, 3, 0), 999966);
        p.due("YEAR 0", p.x.coin(0, 0, 0), 0);
        p.due("no HOLDING", p.x.coin(1, 0, 0), -1);
        p.due("no HOLDING", p.x.coin(-1, 0, 0), -1);
        p.due("no YEAR", p.x.coin(0, -1, 0), -1);
        p.due("no YEAR", p.x.coin(0, 400, 0), -1);
        p.due("no DAY", p.x.coin(0, 0, -1), -1);
        p.due("no DAY", p.x.coin(0, 0, LAST + 1), -1);
    }
}
