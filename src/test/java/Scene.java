import java.util.ArrayList;
import java.util.List;

/**
 * A chest in which everything was told once at least, and all that can be asked of it, for "nothing else has changed".
 * Both together are fewer than the 512 calls for which an object is used.
 */
final class Scene {
    static final int Y = 366;
    static final int LAST = 146399;
    private static final int[] MENTIONS = {0, 1, 2, 4, 6, 9, 12, 18, 20, 21};

    private Scene() {
    }

    /** LINES 0 .. 6, TEXTS 0 .. 2, FACTS 0 .. 4, HOLDINGS 0 .. 3 (3 is a SPLIT), LEVIES 0 1, IMAGE 1, two WISHES, 2 bytes. */
    static ParishChest built() {
        ParishChest x = new ParishChest();
        line(x, 0, 1, 20 * Y, 100, -1, "ann lee, bob lee, eve fox.");
        line(x, 1, 2, 18 * Y, 100, -1, "bob lee, eve may.");
        line(x, 2, 0, 60 * Y + 5, 200, 40, "ann lee.");
        line(x, 3, 0, 30 * Y, 50, 7, "bob le-.");
        line(x, 4, 0, 31 * Y, 50, 30, "ann lee.");
        line(x, 5, 0, 31 * Y + 10, 50, 3, "ann lee.");
        line(x, 0, 15, 40 * Y, 300, -1, "tom lee, ?");
        feed(x, "ie>y,tt>t");
        x.spell(1);
        x.terms(11, 12, 6, 21, 3);
        x.apart(9, 18);
        x.together(0, 6, 250);
        x.together(1, 3, 100);
        x.together(9, 12, 100);
        x.together(0, 12, 100);
        x.together(0, 15, 60);
        x.torn(0, 39 * Y, 39 * Y + 200, 150);
        text(x, 0, 0, 0, "belong rent;belong birth;exempt way if value < 50;rate poor value * 2;relief 20;turn warden 1");
        text(x, 1, 10 * Y, 120, "badge;fee bell 5 + age;fee grave 7;fee wedding 9;seat value;relief 25 if poor");
        text(x, 1, 35 * Y, 130, "strike 0 clause 0;seat 0 - value");
        x.fact(0, 2, 3, 5 * Y, 6 * Y, 0);
        x.fact(0, 4, 3, 30 * Y, 33 * Y, 160);
        x.fact(3, 1, 5, 2 * Y, 9 * Y, 0);
        x.fact(18, 0, 7, 0, 0, 0);
        x.fact(2, 3, 6, 2 * Y, 9 * Y, 0);
        x.appeal(5, 32 * Y, 170);
        for (int h = 0; h < 3; h++) {
            x.holding();
            x.value(h, 30 * h + 40, h * Y, 0);
            x.hold(h, h * 3, 0, 110);
        }
        x.split(1, 1, 3, 25 * Y, 0);
        x.levy(1, 30, 1000, 0);
        x.levy(2, 31, 777, 140);
        x.pay(0, 0, 20, 30 * Y + 5, 0);
        x.pay(1, 2, 30, 31 * Y + 5, 190);
        x.entry(2, 30, 500, 10);
        x.entry(2, 31, -70, 10);
        x.close(2, 30, 500, 30);
        x.acres(0, 0, 9);
        x.acres(3, 2, 8);
        x.price(0, 30, 100, 0);
        x.price(2, 31, 50, 180);
        x.seal(31);
        x.alter(4, 64);
        x.image(1);
        x.wish(0);
        x.wish(6);
        feed(x, "ab");
        return x;
    }

    /** All that can be asked, but for status(). */
    static long[] answers(ParishChest x) {
        List<Long> all = new ArrayList<>();
        int[] known = {115, LAST};
        int[] days = {31 * Y + 10, 60 * Y + 5};
        for (int what = 0; what <= 11; what++) {
            all.add((long) x.count(what));
        }
        all.add((long) x.fault());
        for (int line = 0; line < 8; line++) {
            for (int what = 2; what < 5; what++) {
                all.add((long) x.of(line, what));
            }
            all.add((long) x.as(line + 3, 6));
            all.add(x.fee(line, LAST));
        }
        for (int m : MENTIONS) {
            all.add((long) x.name(m, 0, -1));
            all.add((long) x.piece(m, 1, 0, 1));
            all.add((long) x.reason(m, 9));
            all.add((long) x.worth(0, m));
            for (int k : known) {
                all.add((long) x.soul(m, k));
            }
            all.add((long) x.span(m, LAST, 1));
        }
        for (int k : known) {
            askAsKnown(x, k, all);
            for (int d : days) {
                askOnDay(x, d, k, all);
            }
        }
        all.add((long) x.best(0, 0));
        all.add((long) x.best(3, 100));
        all.add((long) x.group(1));
        all.add((long) x.found(31));
        all.add((long) x.found(20));
        long[] row = new long[all.size()];
        for (int i = 0; i < row.length; i++) {
            row[i] = all.get(i);
        }
        return row;
    }

    private static void askAsKnown(ParishChest x, int k, List<Long> all) {
        all.add((long) x.waits(k, -1));
        all.add((long) x.waits(k, 0));
        all.add((long) x.mentions(0, k, 0, 0));
        all.add((long) x.kin(0, k, 0, 0));
        all.add((long) x.kin(1, k, 2, 0));
        all.add((long) x.kin(1, k, 3, 0));
        for (int what = 0; what < 3; what++) {
            all.add((long) x.fill(0, 39 * Y, 39 * Y + 900, k, what));
            all.add((long) x.order(5, k, what));
            all.add((long) x.turn(3, 31, k, what));
        }
        for (int h = -1; h < 5; h++) {
            all.add((long) x.owe(0, h, k));
            all.add((long) x.owe(1, h, k));
            all.add((long) x.arrear(1, h, LAST, k));
            all.add((long) x.coin(h, 32, k));
        }
        for (int year = 29; year < 33; year++) {
            all.add((long) x.balance(2, year, k));
        }
        all.add((long) x.beyond(4, k));
        // One LINE on the DAYS around: PAGES of those DAYS are seen.
        all.add((long) x.fill(3, 30 * Y + 1, 30 * Y + 5000, k, 2));
    }

    private static void askOnDay(ParishChest x, int d, int k, List<Long> all) {
        for (int h = 0; h < 5; h++) {
            all.add((long) x.house(h, d, k, 0));
            all.add((long) x.house(h, d, k, 1));
            all.add((long) x.seat(d, k, h - 1));
        }
        for (int t = 0; t < 4; t++) {
            all.add((long) x.force(t, 0, d, k));
            all.add((long) x.holds(t, 1, 0, d, k));
        }
        all.add((long) x.belong(0, d, k, 0));
        all.add((long) x.belong(18, d, k, 1));
        all.add((long) x.badge(0, d, k));
        all.add(x.counts(3, 0, d, k, 0));
        all.add(x.counts(7, 0, d, k, 0));
        all.add(x.about(0, d, k, 4));
        all.add(x.about(0, d, k, 9));
    }

    static void feed(ParishChest x, String text) {
        Probe.feed(x, text);
    }

    static void line(ParishChest x, int book, int hand, int day, int known, int number, String text) {
        feed(x, text);
        x.line(book, hand, day, known, number);
    }

    static void text(ParishChest x, int sort, int from, int known, String text) {
        feed(x, text);
        x.text(sort, from, known);
    }
}
